/** Chapter 3, faults 10 and 12 to 15: what is known, arguments, what is assigned for certain, scope, ends. */
public final class BodiesEdgesTest {
    private static final String MORE = " interface I { int get(); } interface J extends I { void put(int a); } class A implements "
        + "I { int f; A next; int[] row; int get() { return f; } int two(int a, A b) { return a; } void none() { } } class B "
        + "extends A { int g; int own() { return 1; } }";

    public static void main(String[] args) {
        variables();
        members();
        superMethods();
        arguments();
        partsInTurn();
        places();
        localsAssigned();
        whenTrueAndFalse();
        choicesAssigned();
        ifsAssigned();
        loopsAssigned();
        jumpsAssigned();
        triesAssigned();
        deadCode();
        jumps();
        scopes();
        thirtyVariables();
        ends();
        orderOfMethods();
        Checks.end();
    }

    private static void body(int number, String marked) {
        Checks.fault(number, Checks.main(marked) + MORE);
    }

    private static void fine(String statements) {
        Checks.fine(Checks.main(statements) + MORE);
    }

    /** "as a variable it means the PARAMETER, LOCAL, or catch's NAME of this method in scope, else a field". */
    private static void variables() {
        Checks.gives(1, "class Main { int x; int main() { x = 5; return m(1); } int m(int x) { return x; } }");
        Checks.gives(2, "class Main { int x; int main() { x = 5; int x = 2; return x; } }");
        Checks.gives(5, "class Main { int x; int main() { x = 5; { int x = 2; } return x; } }");
        Checks.gives(5, "class Main { int x; int main() { x = 5; for (int x = 0; x < 1; x = x + 1) ; return x; } }");
        Checks.gives(5, "class Main { int x; int main() { this.x = 5; int x = 2; return this.x; } }");
        Checks.gives(5, "class Main { int x; int main() { x = 5; try { throw this; } catch (Main x) { } return x; } }");
        Checks.gives(1, "class Main { int x; int main() { try { throw this; } catch (Main x) { return x == this ? 1 : 0; } } }");
        Checks.gives(7, "class A { int x; } class B extends A { } class Main extends B { int main() { x = 7; return x; } }");
        body(10, "return 1; } int m(int x) { return x; } int n() { return @x;");
        body(10, "int x = 1; return x; } int n() { return @x;");
        body(10, "if (true) { int x = 1; } return @x;");
        body(10, "{ { int x = 1; } @x = 2; } return 1;");
        body(10, "for (int x = 0; x < 1; x = x + 1) ; @x = 1; return 1;");
        body(10, "try { int x = 1; } catch (Zero z) { print(@x); } return 1;");
        body(10, "try { int x = 1; } finally { print(@x); } return 1;");
        body(10, "try { } catch (Zero z) { } finally { throw @z; }");
        body(10, "try { } catch (Zero z) { } catch (Null n) { throw @z; } return 1;");
        body(10, "@x = 1; int x; return 1;");
        body(10, "return @f;");
        body(10, "return @main;");
        body(10, "return @Main;");
        // A LOCAL is in scope in its own E.
        body(13, "int x = @x; return 1;");
        body(13, "for (int x = @x; ; ) ;");
    }

    /** "behind . a field of that class; a method that the class or interface has (own or from above ..)". */
    private static void members() {
        fine("B b = new B(); A a = b; I i = a; b.f = 1; b.g = 1; a.f = 1; b.next = b; return b.get() + b.own() + a.get() + "
            + "i.get() + b.two(1, b);");
        body(10, "A a = new B(); return a.@g;");
        body(10, "A a = new B(); a.@g = 1; return 1;");
        body(10, "A a = new B(); return a.@own();");
        body(10, "I i = new B(); i.@two(1, null); return 1;");
        body(10, "I i = null; i.@put(1); return 1;");
        fine("J j = null; j.put(j.get()); return 1;");
        body(10, "Object o = new B(); return o.@get();");
        body(10, "Object o = new B(); return o.@f;");
        body(10, "return new A().@get;");
        body(10, "return new A().@f();");
        body(10, "return this.@x;");
        body(10, "return @x();");
        body(10, "return this.@x();");
        body(10, "int main = 1; return @x(main);");
        fine("int main = 1; return main();");
    }

    /** "super: from the class that it extends". */
    private static void superMethods() {
        String up = " class U { int m() { return 1; } } ";
        Checks.gives(1, up + "class Main extends U { int main() { return super.m(); } int m() { return 2; } }");
        Checks.gives(1, up + "class V extends U { } class Main extends V { int main() { return super.m(); } }");
        Checks.fault(10, up + "class Main extends U { int main() { return super.@n(); } int n() { return 2; } }");
        Checks.fault(10, up + "class Main extends U { int main() { return super.@main(); } }");
        Checks.fault(10, "class Main { int main() { return super.@main(); } }");
        Checks.fault(10, "interface I { int m(); } class Main implements I { int main() { return super.@m(); } int m() { return "
            + "1; } }");
        Checks.gives(12, "class U { int m(int a, int b) { return a * 10 + b; } } class Main extends U { int main() { return "
            + "super.m(1, 2); } int m(int a, int b) { return 0; } }");
        Checks.fault(12, "class U { int m(int a, int b) { return 1; } } class Main extends U { int main() { return super.m(1@); "
            + "} }");
        Checks.fault(12, up + "class Main extends U { int main() { return super.m(@1); } }");
        Checks.fault(11, "class U { void m(int a) { } } class Main extends U { int main() { super.m(@true); return 1; } }");
    }

    /** "12 an argument too many (at its first token, ahead of its being looked at), one too few (at the closing ..)". */
    private static void arguments() {
        body(12, "new A().none(@1); return 1;");
        body(12, "new A().none(@x); return 1;");
        body(12, "new A().none(@(x)); return 1;");
        body(12, "return new A().two(1, null, @x);");
        body(12, "return new A().two(1, null, @-x, y);");
        body(12, "return new A().two(1@);");
        body(12, "return new A().two(@);");
        body(12, "return new A().two((1)@).x;");
        fine("return new A().two(1, null);");
        // Those that are there are looked at first.
        body(10, "return new A().two(@x);");
        body(11, "return new A().two(@true);");
        body(11, "return new A().two(1, @1, 2);");
        body(11, "return new A().two(@null, x);");
        body(10, "return new A().@three(x);");
    }

    /** "An E is judged behind its parts, each part as soon as it has been looked at". */
    private static void partsInTurn() {
        for (String sign : new String[] {"+", "-", "*", "/", "%", "<<", ">>", ">>>", "<", "<=", ">", ">="}) {
            body(11, "print(@true " + sign + " x); return 1;");
            body(10, "print(@x " + sign + " true); return 1;");
            body(10, "print(1 " + sign + " @x); return 1;");
        }
        for (String sign : new String[] {"&&", "||"}) {
            body(11, "boolean b = @1 " + sign + " x; return 1;");
            body(10, "boolean b = true " + sign + " @x; return 1;");
        }
        for (String sign : new String[] {"&", "|", "^"}) {
            body(11, "boolean b = @this " + sign + " x; return 1;");
            body(10, "boolean b = true " + sign + " @x; return 1;");
        }
        for (String sign : new String[] {"==", "!="}) {
            body(10, "boolean b = @x " + sign + " y; return 1;");
            body(10, "boolean b = 1 " + sign + " @x; return 1;");
            body(10, "boolean b = this.@x " + sign + " true; return 1;");
        }
        // The whole is behind its parts: what has a fault within it is not judged itself.
        body(11, "boolean b = 1 + @true; return 1;");
        body(11, "boolean b = @1 + 1; return 1;");
        body(11, "int i = (1 @== true) + 1; return 1;");
        body(11, "print(-@!true); return 1;");
        body(11, "print(-!@1); return 1;");
        // A CHAIN from the left.
        body(11, "return @1.x;");
        body(10, "return @y.x;");
        body(11, "return @1[x];");
        body(11, "return new int[1][@true].x;");
        body(11, "return @new int[1][0].x;");
        body(10, "return new int[1][@x].y;");
        body(11, "return @new A().f.g;");
        body(10, "return new A().next.@x.y;");
        body(10, "return new A().next.row[@x].y;");
        body(11, "return @new A().two(1, null).x;");
        body(10, "return new A().two(1, @x).y;");
        body(11, "return @new A().none().x;");
        body(11, "return @new A().none();");
        body(11, "int[] a = new int[@null]; return x;");
        body(10, "throw @x;");
        body(10, "print(@x); return true;");
        body(11, "if (@1) x = 1; return 1;");
        body(11, "while (@1) x = 1; return 1;");
        body(10, "if (true) @x = 1; else y = 1; return 1;");
        body(10, "if (true) ; else @y = 1; return x;");
        // ? : the condition, whether it fits, then both, then whether they go together.
        body(11, "return @1 ? x : y;");
        body(10, "return true ? @x : y;");
        body(10, "return true ? 1 : @y;");
        body(10, "return true ? true : @y;");
        body(11, "return true @? true : 1;");
        body(11, "return @true ? true : false;");
    }

    /** "Of = the PLACE, then E. A LOCAL's NAME (14) ahead of its E". */
    private static void places() {
        body(10, "@x = y; return 1;");
        body(10, "this.@x = y; return 1;");
        body(10, "@x.y = z; return 1;");
        body(10, "@x[y] = z; return 1;");
        body(10, "new int[1][@y] = z; return 1;");
        body(10, "new int[1][0] = @z; return 1;");
        body(11, "new int[1][0] = @true; return 1;");
        body(11, "new int[1][@true] = z; return 1;");
        body(11, "@this[0] = z; return 1;");
        body(10, "int x; x = @z; return 1;");
        body(14, "int x; int @x = y; return 1;");
        body(14, "int x; for (int @x = y; z; w = 1) ; return 1;");
        body(10, "int x; for (x = @y; z; w = 1) v = 1; return 1;");
        body(10, "for (; @z; w = 1) v = 1; return 1;");
        body(10, "for (; true; w = 1) @v = 1; return 1;");
        body(10, "for (; true; @w = 1) ; return x;");
    }

    /** "a LOCAL behind its = E, a variable behind E of an = to it". */
    private static void localsAssigned() {
        body(13, "int a; return @a;");
        body(13, "int a; int b; b = 1; return @a;");
        fine("int a; int b; b = 1; return b;");
        fine("int a; int b; int c; c = 1; b = c; a = b; return a;");
        body(13, "int a; int b; a = 1; a = @b; return 1;");
        body(13, "int a; a = 1 + @a; return 1;");
        body(13, "A a; @a.f = 1; return 1;");
        body(13, "A a; return @a.f;");
        body(13, "A a; return @a.get();");
        body(13, "int[] a; @a[0] = 1; return 1;");
        body(13, "int[] a; return @a.length;");
        body(13, "int a; new int[1][@a] = 1; return 1;");
        body(13, "int a; return new A().two(@a, null);");
        body(13, "boolean a; if (@a) ; return 1;");
        body(13, "Object a; return @a is A ? 1 : 2;");
        body(13, "Object a; throw @a;");
        body(13, "int a; print(@a); return 1;");
        // A variable of a later BLOCK is another one, also of that place and NAME.
        body(13, "{ int a; int b = 1; } { int a; int b; return @b; }");
        body(13, "{ int a = 1; int b = 1; int c = 1; } int d = 1; int e; return @e;");
        body(13, "while (read() == 1) { int a = 1; int b = a; } int c = 1; int d; return @d;");
        // PARAMETERS are assigned, each of them.
        fine("return 1; } int m(int a, int b, int c, int d, int e, int f, int g, int h) { int i = a; return b + c + d + e + f + "
            + "g + h;");
        body(13, "return 1; } int m(int a, int b) { int c; return a + b + @c;");
        fine("try { } catch (Zero a) { Object o = a; throw a; } catch (Null b) { throw b; } return 1;");
    }

    /** "Behind true everything counts as assigned WHEN FALSE, .. ! .. && .. ||". */
    private static void whenTrueAndFalse() {
        fine("int x; if (true) x = 1; return x;");
        fine("int x; if (true) ; else print(x); return 1;");
        fine("int x; if (false) print(x); return 1;");
        body(13, "int x; if (false) x = 1; return @x;");
        body(13, "int x; if (true) print(@x); return 1;");
        body(13, "int x; if (false) ; else print(@x); return 1;");
        fine("int x; if (!false) x = 1; return x;");
        fine("int x; if (!true) print(x); return 1;");
        body(13, "int x; if (!true) ; else print(@x); return 1;");
        body(13, "int x; if (!false) print(@x); return 1;");
        fine("int x; if (!!true) x = 1; return x;");
        fine("int x; if ((true)) x = 1; return x;");
        // &&
        fine("boolean x; if (false && x) ; return 1;");
        body(13, "boolean x; if (true && @x) ; return 1;");
        body(13, "boolean x; if (read() == 1 && @x) ; return 1;");
        fine("int x; if (read() == 1 && false) print(x); return 1;");
        fine("int x; if (false && read() == 1) print(x); return 1;");
        body(13, "int x; if (read() == 1 && true) print(@x); return 1;");
        body(13, "int x; if (read() == 1 && true) ; else print(@x); return 1;");
        body(13, "int x; if (true && read() == 1) ; else print(@x); return 1;");
        fine("int x; if (true && true) ; else print(x); return 1;");
        // ||
        fine("boolean x; if (true || x) ; return 1;");
        body(13, "boolean x; if (false || @x) ; return 1;");
        body(13, "boolean x; if (read() == 1 || @x) ; return 1;");
        fine("int x; if (read() == 1 || true) ; else print(x); return 1;");
        fine("int x; if (true || read() == 1) ; else print(x); return 1;");
        body(13, "int x; if (read() == 1 || false) ; else print(@x); return 1;");
        body(13, "int x; if (read() == 1 || false) print(@x); return 1;");
        body(13, "int x; if (false || read() == 1) print(@x); return 1;");
        fine("int x; if (false || false) print(x); return 1;");
        // All other E's: as far as one has gone; behind the whole E, too.
        body(13, "int x; if (true & true) ; else print(@x); return 1;");
        body(13, "int x; if (false | false) print(@x); return 1;");
        body(13, "int x; if (true == true) ; else print(@x); return 1;");
        body(13, "int x; boolean b = true; print(@x); return 1;");
        body(13, "int x; boolean b = false; print(@x); return 1;");
        body(13, "int x; boolean b = false && true; print(@x); return 1;");
        body(13, "int x; boolean b = true || true; print(@x); return 1;");
        body(13, "int x; boolean b = (false && true) == (1 == @x); return 1;");
        body(13, "int x; m(false && true, @x); return 1; } void m(boolean a, int b) {");
        body(13, "int x; m(true, @x); return 1; } void m(boolean a, int b) {");
        body(13, "boolean b = true; int x; if (b) x = 1; return @x;");
    }

    /** "a ? b : c: b goes on with a's when true, c with a's when false; behind it what is in both (of booleans ..)". */
    private static void choicesAssigned() {
        fine("int x; return true ? 1 : x;");
        fine("int x; return false ? x : 1;");
        body(13, "int x; return true ? @x : 1;");
        body(13, "int x; return false ? 1 : @x;");
        body(13, "int x; return read() == 1 ? @x : 1;");
        body(13, "int x; int y = true ? 1 : 2; return @x;");
        body(13, "int x; int y = false ? 1 : 2; return @x;");
        body(13, "int x; boolean b = false ? true : true; return @x;");
        fine("int x; if (read() == 1 ? true : true) ; else print(x); return 1;");
        fine("int x; if (read() == 1 ? false : false) print(x); return 1;");
        fine("int x; if (true ? true : read() == 1) ; else print(x); return 1;");
        fine("int x; if (false ? read() == 1 : false) print(x); return 1;");
        body(13, "int x; if (read() == 1 ? true : false) ; else print(@x); return 1;");
        body(13, "int x; if (read() == 1 ? true : false) print(@x); return 1;");
        body(13, "int x; if (read() == 1 ? false : true) print(@x); return 1;");
        body(13, "int x; if (read() == 1 ? false : true) ; else print(@x); return 1;");
        body(13, "int x; if (read() == 1 ? read() == 2 : false) print(@x); return 1;");
        body(13, "int x; if (read() == 1 ? read() == 2 : true) ; else print(@x); return 1;");
        body(13, "int x; if (read() == 1 ? false : read() == 2) print(@x); return 1;");
        body(13, "int x; if (read() == 1 ? true : read() == 2) ; else print(@x); return 1;");
        body(13, "int x; if (true ? read() == 1 : true) ; else print(@x); return 1;");
        fine("int x; if ((true ? 1 : x) == 1 || true) ; else print(x); return 1;");
    }

    /** "if: the STATEMENT goes on with E's when true, OTHER with when false (without it: that is its end)". */
    private static void ifsAssigned() {
        fine("int x; if (read() == 1) x = 1; else x = 2; return x;");
        body(13, "int x; if (read() == 1) x = 1; return @x;");
        body(13, "int x; if (read() == 1) x = 1; else print(@x); return 1;");
        body(13, "int x; if (read() == 1) x = 1; else ; return @x;");
        body(13, "int x; if (read() == 1) ; else x = 1; return @x;");
        body(13, "int x; int y; if (read() == 1) x = 1; else y = 1; return @x;");
        body(13, "int x; int y; if (read() == 1) x = 1; else y = 1; return @y;");
        fine("int x; if (read() == 1) return 1; else x = 2; return x;");
        fine("int x; if (read() == 1) x = 2; else return 1; return x;");
        fine("int x; if (read() == 1) { if (read() == 2) x = 1; else x = 2; } else { x = 3; } return x;");
        body(13, "int x; if (read() == 1) { if (read() == 2) x = 1; } else { x = 3; } return @x;");
    }

    /** "while, for (without E: as of true): ..". */
    private static void loopsAssigned() {
        body(13, "int x; while (read() == 1) x = 1; return @x;");
        body(13, "int x; while (read() == 1) print(@x); return 1;");
        fine("int x; while (false) print(x); return 1;");
        body(13, "int x; while (false) x = 1; return @x;");
        fine("int x; while (true) ; print(x);");
        fine("int x; for (; ; ) ; print(x);");
        fine("int x; for (; true; ) ; print(x);");
        body(13, "int x; for (; read() == 1; ) ; print(@x); return 1;");
        fine("int x; while (true) { x = 1; break; } return x;");
        fine("int x; for (; ; ) { x = 1; break; } return x;");
        fine("int x; while (true) { x = 1; if (read() == 1) break; } return x;");
        body(13, "int x; while (read() == 1) { x = 1; break; } return @x;");
        body(13, "int x; while (true) { if (read() == 1) break; x = 1; } return @x;");
        body(13, "int x; for (; ; ) { if (read() == 1) { x = 1; break; } if (read() == 2) break; } return @x;");
        fine("int x; for (; ; ) { if (read() == 1) { x = 1; break; } if (read() == 2) { x = 2; break; } } return x;");
        // FIRST is done always, NEXT behind the STATEMENT and each continue.
        fine("int x; for (x = 1; read() == 1; ) ; return x;");
        body(13, "int x; for (; read() == 1; x = 1) ; return @x;");
        body(13, "int x; for (; read() == 1; x = 1) print(@x); return 1;");
        body(13, "int x; for (; read() == @x; x = 1) ; return 1;");
        body(13, "int x; int y; for (; ; y = @x) ; ");
        fine("int x; int y; for (; ; y = x) x = 1;");
        fine("int x; int y; for (; ; y = x) { x = 1; if (read() == 1) continue; }");
        body(13, "int x; int y; for (; ; y = @x) { if (read() == 1) continue; x = 1; }");
        fine("int x; int y; for (; ; y = x) { if (read() == 1) { x = 2; continue; } x = 1; }");
        fine("int x; int y; for (; ; y = x) { if (read() == 1) break; x = 1; } return 1;");
        fine("int x; int y; for (; ; y = x) { if (read() == 1) return 1; x = 1; }");
        // A continue is none of what is behind the loop, a break none of what NEXT has.
        fine("int x; while (true) { if (read() == 1) continue; x = 1; break; } return x;");
        body(13, "int x; while (read() == 1) { x = 1; } print(@x); return 1;");
        // In E behind the STATEMENT nothing more is assigned.
        body(13, "int x; boolean f = true; while (f || @x == 1) { x = 1; f = false; } return 1;");
    }

    /** "Behind return, throw, break, continue everything is assigned (what follows can't be reached)." */
    private static void jumpsAssigned() {
        fine("int x; if (read() == 1) return 1; else x = 1; return x;");
        fine("int x; if (read() == 1) throw this; else x = 1; return x;");
        fine("int x; while (read() == 2) { if (read() == 1) break; else x = 1; print(x); } return 1;");
        fine("int x; while (read() == 2) { if (read() == 1) continue; else x = 1; print(x); } return 1;");
        body(13, "int x; while (read() == 2) { if (read() == 1) print(1); else x = 1; print(@x); } return 1;");
        // Each is of the innermost loop.
        fine("int x; while (true) { while (true) { break; } x = 1; break; } return x;");
        body(13, "int x; while (true) { while (true) { x = 1; break; } if (read() == 1) break; } int y; return x + @y;");
        fine("int x; while (true) { x = 1; for (; ; ) { if (read() == 1) break; } break; } return x;");
        body(13, "int x; while (true) { for (; ; ) { if (read() == 1) break; x = 1; } break; } return @x;");
    }

    /** "try: CATCHES and LAST go on as it began; behind it what is in the ends of its BLOCK and of all CATCHES, or ..". */
    private static void triesAssigned() {
        fine("int x; try { x = 1; } catch (Zero z) { x = 2; } catch (Null n) { x = 3; } return x;");
        body(13, "int x; try { x = 1; } catch (Zero z) { x = 2; } catch (Null n) { } return @x;");
        body(13, "int x; try { x = 1; } catch (Zero z) { } catch (Null n) { x = 3; } return @x;");
        body(13, "int x; try { } catch (Zero z) { x = 2; } catch (Null n) { x = 3; } return @x;");
        body(13, "int x; try { } catch (Zero z) { x = 2; } return @x;");
        body(13, "int x; try { x = 1; } catch (Zero z) { print(@x); } return 1;");
        body(13, "int x; try { } catch (Zero z) { x = 1; } catch (Null n) { print(@x); } return 1;");
        body(13, "int x; try { x = 1; } finally { print(@x); } return 1;");
        body(13, "int x; try { x = 1; } catch (Zero z) { x = 1; } finally { print(@x); } return 1;");
        fine("int x = 1; try { } catch (Zero z) { print(x); } finally { print(x); } return 1;");
        fine("int x; try { } finally { x = 1; } return x;");
        fine("int x; try { } catch (Zero z) { } finally { x = 1; } return x;");
        fine("int x; int y; try { x = 1; } finally { y = 1; } return x + y;");
        body(13, "int x; int y; try { x = 1; } catch (Zero z) { } finally { y = 1; } print(y); return @x;");
        fine("int x; try { x = 1; } catch (Zero z) { return 1; } return x;");
        fine("int x; try { return 1; } catch (Zero z) { x = 1; } return x;");
        fine("int x; try { x = 1; } catch (Zero z) { x = 2; } finally { } return x;");
        fine("int x; try { throw this; } finally { print(1); } print(x);");
        fine("int x; while (true) { try { break; } finally { x = 1; } } return 1;");
        // At a break, what its LAST would do has not been done.
        body(13, "int x; while (true) { try { break; } finally { x = 1; } } return @x;");
        fine("int x; while (true) { try { x = 1; break; } finally { } } return x;");
    }

    /** "(Where everything is assigned, a LOCAL without = is so, too.)" */
    private static void deadCode() {
        fine("return 1; int x; print(x);");
        fine("return 1; int x; int y; print(x + y); { int z; print(z); }");
        fine("throw this; int x; return x;");
        fine("while (true) { break; int x; print(x); } return 1;");
        fine("while (true) { continue; int x; print(x); }");
        fine("for (; ; ) ; int x; return x;");
        fine("if (false) { int x; print(x); } return 1;");
        fine("while (false) { int x; print(x); } return 1;");
        fine("if (true) ; else { int x; print(x); } return 1;");
        body(13, "if (false) { } int x; print(@x); return 1;");
        body(13, "if (read() == 1) return 1; int x; return @x;");
        // It is judged all the same.
        body(10, "return 1; @x = 1;");
        body(11, "return 1; int x = @true;");
        body(14, "return 1; @break;");
        body(14, "return 1; int x; int @x;");
        body(13, "return 1; } int m() { int x; return @x;");
    }

    /** "14 break, continue that are in no loop". */
    private static void jumps() {
        for (String jump : new String[] {"break", "continue"}) {
            body(14, "@" + jump + "; return 1;");
            body(14, "{ if (true) @" + jump + "; } return 1;");
            body(14, "while (true) ; @" + jump + ";");
            body(14, "for (; ; ) ; @" + jump + ";");
            body(14, "try { @" + jump + "; } finally { } return 1;");
            body(14, "try { } catch (Zero z) { @" + jump + "; } return 1;");
            body(14, "try { } finally { @" + jump + "; } return 1;");
            body(14, "while (true) { " + jump + "; } return 1; } int m() { @" + jump + "; return 1;");
            fine("while (read() == 1) " + jump + "; return 1;");
            fine("for (; read() == 1; ) { if (true) { try { " + jump + "; } finally { " + jump + "; } } } return 1;");
            fine("while (read() == 1) { for (; read() == 2; ) ; " + jump + "; } return 1;");
            fine("while (read() == 1) { try { } catch (Zero z) { " + jump + "; } } return 1;");
        }
    }

    /** "a variable's NAME that is one of a variable in scope (at that NAME)". */
    private static void scopes() {
        String[] seconds = {"int @a;", "boolean @a = true;", "{ int @a; }", "{ { int @a; } }", "for (int @a = 0; ; ) ;",
            "try { } catch (Zero @a) { }", "try { int @a; } finally { }", "try { } catch (Zero z) { int @a; }",
            "try { } finally { int @a; }", "if (true) { int @a; }", "while (true) { int @a; }"};
        for (String second : seconds) {
            body(14, "int a = 1; " + second + " return 1;");
            body(14, "return 1; } int m(int b, int a) { " + second + " return 1;");
            body(14, "for (int a = 0; ; ) { " + second + " }");
            body(14, "try { } catch (Zero a) { " + second + " } return 1;");
            // Behind the scope's end it is free again.
            fine("{ int a = 1; } " + second.replace("@", "") + " return 1;");
            fine("for (int a = 0; a < 1; ) ; " + second.replace("@", "") + " return 1;");
            fine("try { int a; } catch (Zero a) { } catch (Null a) { } finally { int a; } " + second.replace("@", "")
                + " return 1;");
        }
        body(14, "return 1; } void m(int a, boolean b, int @a) {");
        body(14, "return 1; } void m(int a, int b, int @b, int a) {");
        fine("return 1; } void m(int a) { } void n(int a) { int b; } void o() { int a; int b;");
        fine("int main = 1; int Main = 2; int A = 3; int f = 4; return main;");
    }

    /** "the 31st variable in scope (likewise)". */
    private static void thirtyVariables() {
        StringBuilder most = new StringBuilder();
        for (int i = 0; i < 29; i++) {
            most.append("int v").append(i).append("; ");
        }
        String[] thirtieth = {"int @w;", "Main @w = this;", "{ int @w; }", "for (int @w = 0; ; ) ;",
            "try { } catch (Zero @w) { }", "try { int @w; } finally { }", "try { } finally { int @w; }"};
        for (String last : thirtieth) {
            fine(most + last.replace("@", "") + " return 1;");
            body(14, most + "int v29; " + last + " return 1;");
            body(14, "return 1; } int m(int a, int b, int c, int d, int e, int f, int g, int h) { "
                + most.substring(0, most.indexOf("int v22")) + last + " return 1;");
            fine("return 1; } int m(int a, int b, int c, int d, int e, int f, int g, int h) { "
                + most.substring(0, most.indexOf("int v21")) + last.replace("@", "") + " return 1;");
        }
        fine("{ " + most + "int w; } { " + most + "int w; } " + most + "int w; return 1;");
        // Each of the thirty has a value of its own, and is assigned for itself.
        StringBuilder all = new StringBuilder();
        StringBuilder sum = new StringBuilder("0");
        for (int i = 0; i < 30; i++) {
            all.append("int v").append(i).append("; v").append(i).append(" = 1 << ").append(i).append("; ");
            sum.append(" + v").append(i);
        }
        Checks.gives((1 << 30) - 1, Checks.main(all + "return " + sum + ";"));
        for (int i = 0; i < 30; i++) {
            String left = all.toString().replace(" v" + i + " = 1 << " + i + ";", "");
            body(13, left + "return " + sum.toString().replaceFirst("v" + i + "\\b", "@v" + i) + ";");
        }
        // Fields are none of them.
        Checks.fine("class Main { int a, b, c, d, e; int main() { " + most + "int w; a = 1; return a; } }");
    }

    /** "15 the end of a method with a result can be reached (at its last brace)". */
    private static void ends() {
        String[] reached = {"", ";", "{ }", "print(1);", "int x = 1;", "if (read() == 1) return 1;",
            "if (read() == 1) ; else return 1;", "while (read() == 1) return 1;", "while (true) break;",
            "for (; ; ) { if (read() == 1) break; }", "for (; read() == 1; ) ;", "while (false) ;", "if (false) return 1;",
            "try { return 1; } catch (Zero z) { }", "try { } catch (Zero z) { return 1; }", "try { } finally { }",
            "try { return 1; } catch (Zero z) { return 1; } catch (Null n) { }", "main();",
            "while (true) { try { return 1; } finally { break; } }"};
        for (String end : reached) {
            Checks.fault(15, "class Main { int main() { " + end + " @} }");
            Checks.fault(15, "class Main { int main() { return 1; } boolean[] m() { " + end.replace("return 1", "return null")
                + " @} }");
            Checks.fine("class Main { int main() { return 1; } void m() { " + end.replace("return 1", "return") + " } }");
        }
        String[] closed = {"return 1;", "throw this;", "while (true) ;", "for (; ; ) ;", "for (; true; ) ;", "{ return 1; }",
            "if (read() == 1) return 1; else return 2;", "if (read() == 1) return 1; else throw this;", "if (true) return 1;",
            "if (false) ; else return 1;", "while (true) { if (read() == 1) return 1; }", "while (true) { continue; }",
            "while (true) { while (true) { break; } }", "try { return 1; } finally { }", "try { } finally { return 1; }",
            "try { return 1; } catch (Zero z) { return 2; }", "try { print(1); } catch (Zero z) { } finally { throw this; }",
            "return 1; print(1);", "while (!false) ;", "while (true || read() == 1) ;", "for (; read() == 1 || true; ) ;"};
        for (String end : closed) {
            Checks.fine("class Main { int main() { " + end + " } }");
        }
        Checks.fault(15, "class Main { int main() { { { } } @} int m() { } }");
        Checks.fault(15, "class Main { int main() { return 1; } int m() { @} int n() { } }");
        // Ahead of it comes what is met ahead of it.
        Checks.fault(10, "class Main { int main() { @x = 1; } }");
    }

    /** "Methods are looked at in the order of the text". */
    private static void orderOfMethods() {
        Checks.fault(10, "class B extends A { void m() { @x = 1; } } class A { void n() { y = 1; } } " + Checks.main("return 1;"));
        Checks.fault(15, "class B { int m() { @} } class A { void n() { y = 1; } } " + Checks.main("return 1;"));
        Checks.fault(10, "class B { void a() { } int f; void b() { @x = 1; } void c() { y = 1; } } " + Checks.main("return z;"));
        Checks.fault(10, Checks.main("return @z;") + " class B { void b() { x = 1; } }");
    }
}
