/** Promise 4, faults 10 to 15: bodies. */
public final class BodiesTest {
    private static final String MORE = " interface I { int get(); } class A implements I { int f; A next; I face; "
        + "int get() { return f; } int two(int a, A b) { return a; } void nothing() { } } class B extends A { int g; "
        + "int own() { return super.get() + super.two(1, this); } }";

    public static void main(String[] args) {
        notKnown();
        types();
        referenceTypes();
        arguments();
        assigned();
        loopsAssigned();
        triesAssigned();
        scope();
        noEnd();
        order();
        Checks.end();
    }

    private static void body(int number, String marked) {
        Checks.fault(number, Checks.main(marked) + MORE);
    }

    private static void fine(String statements) {
        Checks.fine(Checks.main(statements) + MORE);
    }

    private static void notKnown() {
        body(10, "return @x;");
        body(10, "@x = 1; return 1;");
        body(10, "@x[0] = 1; return 1;");
        body(10, "{ int x = 1; } return @x;");
        body(10, "for (int x = 1; ; ) { break; } return @x;");
        body(10, "try { } catch (Zero z) { } @z = null; return 1;");
        body(10, "return new A().@g;");
        body(10, "new A().@g = 1; return 1;");
        body(10, "return new B().f + new B().g + new B().@h;");
        body(10, "return @get();");
        body(10, "return new A().@own();");
        body(10, "I i = new B(); return i.get() + i.@two(1, null);");
        body(10, "return super.@main();");
        body(10, "Object o = this; return o.@main();");
        fine("A a = new B(); B b = a as B; I i = b; return b.f + b.get() + b.own() + i.get() + b.two(1, a);");
        Checks.fault(10, "class Main extends A { int main() { return super.@own(); } int own() { return 1; } } class A { }");
        // A variable hides a field.
        Checks.gives(5, "class Main { boolean x; int main() { int x = 5; return x; } }");
    }

    private static void types() {
        body(11, "return @true;");
        body(11, "return @null;");
        body(11, "return 1 + @true;");
        body(11, "return @true + 1;");
        body(11, "return @(true) - 1;");
        body(11, "return 1 * 2 / @this;");
        body(11, "return 3 % @null;");
        body(11, "return 1 << @false;");
        body(11, "boolean b = @true < 1; return 1;");
        body(11, "boolean b = 1 >= @true; return 1;");
        body(11, "return -@true;");
        body(11, "return ~@(true);");
        body(11, "boolean b = !@1; return 1;");
        body(11, "boolean b = @1 && true; return 1;");
        body(11, "boolean b = true || @1; return 1;");
        body(11, "return @1 ? 1 : 2;");
        body(11, "if (@1) ; return 1;");
        body(11, "while (@1) ; return 1;");
        body(11, "for (; @1; ) ; return 1;");
        body(11, "boolean b = true & @1; return 1;");
        body(11, "return 1 | @true;");
        body(11, "return @this ^ 1;");
        body(11, "return @null & 1;");
        body(11, "boolean b = 1 @== true; return 1;");
        body(11, "boolean b = 1 @!= null; return 1;");
        body(11, "boolean b = null @== true; return 1;");
        body(11, "return true @? 1 : true;");
        body(11, "return true @? 1 : null;");
        body(11, "print(@true); return 1;");
        body(11, "return new int[2][@true];");
        body(11, "int[] a = new int[@null]; return 1;");
        body(11, "int x = @true; return 1;");
        body(11, "boolean x = @1; return 1;");
        body(11, "int x = 1; x = @null; return 1;");
        body(11, "int[] x = new int[1]; x[0] = @true; return 1;");
        body(11, "new A().f = @true; return 1;");
        body(11, "@return; } int m() { return 1;");
        body(11, "return 1; } void m() { return @1;");
        body(11, "return 1; } void m() { return @m();");
        // void is no type.
        body(11, "return 1; } void m() { int x = @m();");
        body(11, "return 1; } void m() { print(@m());");
        body(11, "return 1; } void m() { boolean b = m() @== m();");
        body(11, "return 1; } void m() { int x = true @? m() : m();");
        body(11, "return 1; } void m() { @m().x = 1;");
        body(11, "return 1; } void m() { boolean b = @m() is A;");
        fine("boolean b = true & false | true ^ b2() == (1 < 2) != (3 >= 4); int i = 1 & 2 | 3 ^ ~4; "
            + "return b ? i : -i; } boolean b2() { return !false || true && 1 == 2;");
    }

    private static void referenceTypes() {
        body(11, "A a = @new Object(); return 1;");
        body(11, "B b = @new A(); return 1;");
        body(11, "I i = @new Object(); return 1;");
        body(11, "A a = @new A().face; return 1;");
        body(11, "Object[] o = @new int[1]; return 1;");
        body(11, "B[] o = @new A[1]; return 1;");
        body(11, "int[] o = @new boolean[1]; return 1;");
        body(11, "A o = @new A[1]; return 1;");
        body(11, "A[] a = new A[1]; a[0] = @new Object(); return 1;");
        fine("I i = new B(); Object o = i; o = new int[1]; Object[] p = new I[2]; p = new B[1]; I[] q = new B[1]; "
            + "int[] r = null; o = null; i = null; o = new A[1]; A a = null; return 1;");
        body(11, "boolean b = new B() @== new Main(); return 1;");
        body(11, "boolean b = new int[1] @== new boolean[1]; return 1;");
        body(11, "boolean b = new int[1] @!= new A(); return 1;");
        body(11, "I i = null; boolean b = i @== this; return 1;");
        fine("I i = null; boolean b = i == new A() && new B() != i && null == i && i == null && null == null && "
            + "new int[1] == (i as Object) && new B[1] != new I[1]; return 1;");
        // What ? gives is what the other one fits.
        fine("I i = true ? new A() : null; A a = true ? new B() : new A(); a = true ? null : new B(); return 1;");
        body(11, "B b = @true ? new B() : new A(); return 1;");
        body(11, "Object o = true @? new A() : this; return 1;");
        body(11, "return @1.f;");
        body(11, "return @null.f;");
        body(11, "return @this.x().f; } int x() { return 1;");
        body(11, "return @new A().face.f;");
        body(11, "return @new A[1].f;");
        body(11, "return @new A[1].get();");
        body(11, "return @null.get();");
        body(11, "return @(1).get();");
        body(11, "return @this.length;");
        body(11, "return @1[0];");
        body(11, "return @null[0];");
        body(11, "@this[0] = 1; return 1;");
        body(11, "@new A().f.g = 1; return 1;");
        body(11, "return @1 is A ? 1 : 2;");
        body(11, "return null is @int ? 1 : 2;");
        body(11, "return (this as @boolean);");
        body(11, "return @(1) as A;");
        fine("Object o = null as A; o = o as int[]; boolean b = o is boolean[] | null is I | new A() is Zero; return 1;");
        body(11, "throw @1;");
        body(11, "throw @null;");
        body(11, "throw @new A().face;");
        body(11, "throw @new A[1];");
        body(11, "throw @(null);");
        fine("if (read() == 1) throw this; Object o = null; throw o;");
    }

    private static void arguments() {
        body(12, "return new A().two(1@);");
        body(12, "return new A().two(@);");
        body(12, "return new A().two(1, null, @3);");
        body(12, "return new A().get(@x);");
        body(12, "new A().nothing(@(1)); return 1;");
        body(12, "return main(@1);");
        body(11, "return new A().two(@true);");
        body(11, "return new A().two(1, @this, 3);");
        body(10, "return new A().two(@x, true, 1);");
        Checks.fault(12, "class Main extends A { int main() { return super.m(@); } } class A { int m(int a) { return 1; } }");
    }

    private static void assigned() {
        body(13, "int x; return @x;");
        body(13, "int x = 1; return x; } int m() { int x; return @x;");
        body(13, "return 1; } int m(int a) { int x; return @x;");
        body(13, "int x = @x; return 1;");
        body(13, "int x; x = @x + 1; return 1;");
        body(13, "int[] x; @x[0] = 1; return 1;");
        body(13, "A x; @x.f = 1; return 1;");
        body(13, "int x; if (read() == 1) x = 1; return @x;");
        body(13, "int x; if (read() == 1) ; else x = 1; return @x;");
        fine("int x; if (read() == 1) x = 1; else x = 2; return x;");
        fine("int x; if (read() == 1) return 1; else x = 2; return x;");
        fine("int x; if (read() == 1) throw this; else x = 2; return x;");
        fine("int x; if (true) x = 1; return x;");
        fine("int x; if (false) return x; return 1;");
        fine("int x; if (!true) return x; return 1;");
        fine("int x; if (!(false || !true)) x = 1; return x;");
        body(13, "int x; if (true & true) x = 1; return @x;");
        body(13, "int x; boolean t = true; if (t) x = 1; return @x;");
        body(13, "int x; if (true == true) x = 1; return @x;");
        fine("boolean x; if (true || x) ; if (false && x) ; return true ? 1 : x ? 1 : 2;");
        body(13, "boolean x; if (true && @x) ; return 1;");
        body(13, "boolean x; if (false || @x) ; return 1;");
        body(13, "int x; return false ? 1 : @x;");
        fine("int x; if (true ? true : false) x = 1; return x;");
        body(13, "int x; if (read() == 1 ? true : false) x = 1; return @x;");
        fine("int x; if (read() == 1 ? true : true) x = 1; return x;");
        fine("int x; if (read() == 1 || true) x = 1; return x;");
        body(13, "int x; if (read() == 1 && true) x = 1; return @x;");
        fine("int x; if (read() == 1 && false) return x; return 1;");
        fine("int x; { x = 1; } return x;");
        body(13, "{ int x = 1; } { int y; return @y; }");
        // Where one can't come, all is assigned.
        fine("return 1; int x; print(x);");
        fine("while (true) { } int x; return x;");
        fine("int x; throw this; return x;");
        // PARAMETERS, fields and catch's NAMES always are.
        fine("try { } catch (Zero z) { throw z; } return 1; } int f; int m(int a) { return a + f;");
    }

    private static void loopsAssigned() {
        body(13, "int x; while (read() == 1) x = 1; return @x;");
        fine("int x; while (true) { x = 1; break; } return x;");
        body(13, "int x; while (true) { if (read() == 1) break; x = 1; break; } return @x;");
        body(13, "int x; while (true) { if (read() == 1) { break; } x = 1; } return @x;");
        fine("int x; while (true) { if (read() == 1) { x = 1; break; } } return x;");
        body(13, "int x; while (read() == 1) { print(@x); x = 1; } return 1;");
        fine("int x; while (false) { print(x); } return 1;");
        fine("int x; for (x = 1; ; ) { break; } return x;");
        fine("int x; for (; ; x = 1) { break; } return 1;");
        body(13, "int x; for (; read() == 1; print2(@x)) { } return 1; } void print2(int a) {");
        fine("int x; for (; read() == 1; print2(x)) { x = 1; } return 1; } void print2(int a) {");
        body(13, "int x; for (; read() == 1; print2(@x)) { if (read() == 1) continue; x = 1; } return 1; } "
            + "void print2(int a) {");
        fine("int x; for (; read() == 1; print2(x)) { x = 1; if (read() == 2) continue; } return 1; } "
            + "void print2(int a) {");
        fine("int x; for (; read() == 1; print2(x)) { break; } return 1; } void print2(int a) {");
        body(13, "int x; for (; read() == 1; x = 1) { print(@x); } return 1;");
        // A break is of its own loop.
        fine("int x; while (true) { x = 1; while (true) { break; } break; } return x;");
    }

    private static void triesAssigned() {
        fine("int x; try { x = 1; } finally { } return x;");
        fine("int x; try { } finally { x = 1; } return x;");
        body(13, "int x; try { x = 1; } catch (Object o) { } return @x;");
        body(13, "int x; try { x = 1; } catch (Object o) { x = @x; } return 1;");
        fine("int x; try { x = 1; } catch (Null o) { x = 2; } catch (Zero o) { return 1; } return x;");
        body(13, "int x; try { x = 1; } finally { print(@x); } return 1;");
        body(13, "int x; try { } catch (Object o) { x = 1; } finally { print(@x); } return 1;");
        fine("int x; try { x = 1; } catch (Object o) { } finally { x = 2; } return x;");
        fine("int x; try { return 1; } catch (Object o) { x = 1; } return x;");
        fine("try { } finally { return 1; }");
        fine("try { return 1; } catch (Object o) { return 2; } finally { }");
        fine("try { throw this; } catch (Main o) { throw o; }");
    }

    private static void scope() {
        body(14, "@break; return 1;");
        body(14, "@continue; return 1;");
        body(14, "while (true) { } if (true) @break; return 1;");
        fine("while (true) { if (true) { try { break; } finally { } } else continue; } return 1;");
        body(14, "int a = 1; int @a = 2; return 1;");
        body(14, "int a = 1; { boolean @a; } return 1;");
        body(14, "int a; for (int @a = 1; ; ) ;");
        body(14, "int a; try { } catch (Zero @a) { } return 1;");
        body(14, "for (int a = 1; ; ) { int @a; }");
        body(14, "try { } catch (Zero a) { int @a; } return 1;");
        body(14, "return 1; } int m(int a, int @a) { return 1;");
        body(14, "return 1; } int m(int a) { int @a = x; return 1;");
        fine("{ int a; } int a; { int b; } { int b; } for (int c = 1; c < 2; ) break; int c; return 1;");
        fine("try { int a; } catch (Zero a) { } catch (Null a) { } finally { int a; } return 1;");
        StringBuilder many = new StringBuilder();
        for (int i = 0; i < 30; i++) {
            many.append("int v").append(i).append("; ");
        }
        fine(many + "return 1;");
        body(14, many + "int @w; return 1;");
        body(14, many + "{ int @w; } return 1;");
        body(14, many + "try { } catch (Zero @z) { } return 1;");
        fine("{ " + many + "} { " + many + "} return 1;");
        fine("return 1; } int m(int a, int b) { " + many.substring(0, many.indexOf("int v28")) + "return 1;");
        body(14, "return 1; } int m(int a, int b) { " + many.substring(0, many.indexOf("int v28")) + "int @c; return 1;");
        // An interface's method has PARAMETERS, too.
        Checks.fault(14, Checks.main("return 1;") + " interface I { void m(int a, int @a); }");
    }

    private static void noEnd() {
        Checks.fault(15, "class Main { int main() { @} }");
        Checks.fault(15, "class Main { int main() { if (read() == 1) return 1; @} }");
        Checks.fault(15, "class Main { int main() { while (read() == 1) return 1; @} }");
        Checks.fault(15, "class Main { int main() { while (true) break; @} }");
        Checks.fault(15, "class Main { int main() { for (; ; ) { if (read() == 1) break; } @} }");
        Checks.fault(15, "class Main { int main() { try { return 1; } catch (Zero z) { } @} }");
        fine("while (true) { }");
        fine("for (; ; ) { }");
        fine("for (; true; ) ;");
        fine("if (true) return 1;");
        fine("if (read() == 1) return 1; else throw this;");
        fine("{ { return 1; } }");
        fine("return 1; } void m() {");
    }

    private static void order() {
        // From the left to the right; parts ahead of the whole.
        body(10, "return @x + true;");
        body(11, "return @true + x;");
        body(11, "return 1 + 2 < @true + x ? 1 : 2;");
        body(10, "boolean b = 1 == @x; return 1;");
        body(10, "return true ? 1 : @x;");
        body(10, "return true ? true : @x;");
        body(11, "return @1 ? x : y;");
        body(10, "@x = y; return 1;");
        body(10, "new A().f = @y; return 1;");
        body(11, "return @1.x(y);");
        body(10, "return this.@x(y);");
        body(11, "return @1[x];");
        body(10, "return 1; } void m() { return @x;");
        body(14, "int a; int @a = x; return 1;");
        body(10, "for (int i = 0; i < 2; i = y) @x = 1; return 1;");
        body(10, "for (int i = 0; i < 2; i = @y) ; return x;");
        body(11, "for (int i = 0; @i; i = y) x = 1; return 1;");
        body(13, "int x; return @x == true ? 1 : 2;");
        body(11, "return @1 is int ? 1 : 2;");
        body(10, "return @x; } int m() { return y;");
        body(15, "@} int m() { return y;");
    }
}
