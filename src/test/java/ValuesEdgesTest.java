/** Chapter 4, VALUES and exceptions: the machine's numbers against Java's own, and which of several exceptions comes. */
public final class ValuesEdgesTest {
    private static final int NULL = 1, CAST = 2, ZERO = 3, INDEX = 4, STORE = 5, SIZE = 6;
    private static final int[] NUMBERS = {0, 1, -1, 2, -2, 3, -3, 7, -7, 31, 32, 33, -31, -32, -33, 63, 64, 65535, 65536, -65536,
        1073741824, -1073741824, 2147483646, 2147483647, -2147483647, -2147483648};
    private static final String ALL_SIGNS = "class Main { int b(boolean a) { return a ? 1 : 0; } int main() { int a = read(); int b"
        + " = read(); print(a + b); print(a - b); print(a * b); print(a << b); print(a >> b); print(a >>> b); print(a & b); "
        + "print(a | b); print(a ^ b); print(-a); print(~a); print(b(a < b)); print(b(a <= b)); print(b(a > b)); "
        + "print(b(a >= b)); print(b(a == b)); print(b(a != b)); if (b == 0) return 0; print(a / b); print(a % b); return 1; } }";

    public static void main(String[] args) {
        numbers();
        truths();
        firstValues();
        leftOut();
        fromTheLeft();
        indexes();
        sizes();
        nulls();
        casts();
        stores();
        throwing();
        ofSeveral();
        sixObjects();
        calledMethods();
        outputs();
        reads();
        Checks.end();
    }

    /** "ints that wrap"; "/ is rounded towards 0, % has the dividend's sign; shifts by the lowest five bits." */
    private static void numbers() {
        JinjaTongue x = null;
        int calls = 0;
        for (int a : NUMBERS) {
            for (int b : NUMBERS) {
                // An object is used for 512 calls at most.
                if (calls % 16 == 0) {
                    x = Checks.program(ALL_SIGNS);
                }
                calls++;
                one(x, a, b);
            }
        }
        for (String sign : new String[] {"/", "%"}) {
            for (int a : new int[] {0, 1, 2147483647}) {
                Checks.throwsOut(ZERO, Checks.main("return " + a + " " + sign + " 0;"));
                Checks.throwsOut(ZERO, Checks.main("return (-" + a + " - 1) " + sign + " (1 - 1);"));
            }
        }
    }

    private static void one(JinjaTongue x, int a, int b) {
        x.forget();
        x.input(a);
        x.input(b);
        Checks.due("run with " + a + ", " + b, Checks.run(x, 200, 10), 0);
        int[] due = {a + b, a - b, a * b, a << b, a >> b, a >>> b, a & b, a | b, a ^ b, -a, ~a, a < b ? 1 : 0, a <= b ? 1 : 0,
            a > b ? 1 : 0, a >= b ? 1 : 0, a == b ? 1 : 0, a != b ? 1 : 0, b == 0 ? 0 : a / b, b == 0 ? 0 : a % b};
        int most = b == 0 ? 17 : 19;
        Checks.due("count(6)", x.count(6), most);
        for (int i = 0; i < most; i++) {
            Checks.due("output(" + i + ") with " + a + ", " + b, x.output(i), due[i]);
        }
    }

    private static void truths() {
        for (int bits = 0; bits < 4; bits++) {
            boolean a = (bits & 1) == 1;
            boolean b = (bits & 2) == 2;
            String head = "boolean a = " + a + "; boolean b = " + b + "; return ";
            Checks.gives(a & b ? 1 : 0, Checks.main(head + "a & b ? 1 : 0;"));
            Checks.gives(a | b ? 1 : 0, Checks.main(head + "a | b ? 1 : 0;"));
            Checks.gives(a ^ b ? 1 : 0, Checks.main(head + "a ^ b ? 1 : 0;"));
            Checks.gives(a && b ? 1 : 0, Checks.main(head + "a && b ? 1 : 0;"));
            Checks.gives(a || b ? 1 : 0, Checks.main(head + "a || b ? 1 : 0;"));
            Checks.gives(a == b ? 1 : 0, Checks.main(head + "a == b ? 1 : 0;"));
            Checks.gives(a != b ? 1 : 0, Checks.main(head + "a != b ? 1 : 0;"));
            Checks.gives(!a ? 1 : 0, Checks.main(head + "!a ? 1 : 0;"));
            Checks.gives(!!a == b ? 1 : 0, Checks.main(head + "!!a == b ? 1 : 0;"));
            Checks.gives(!(a && b) || b ? 1 : 0, Checks.main(head + "!(a && b) || b ? 1 : 0;"));
            Checks.gives((a ? b : !b) ? 1 : 0, Checks.main(head + "(a ? b : !b) ? 1 : 0;"));
            Checks.gives(a ? 1 : 2, Checks.main(head + "a ? 1 : 2;"));
            Checks.gives(!a ? 1 : 2, Checks.main("boolean a = " + a + "; boolean[] c = new boolean[1]; c[0] = !a; if (c[0]) "
                + "return 1; return 2;"));
        }
    }

    /** "Fields and elements are 0, false, null at first." */
    private static void firstValues() {
        Checks.gives(1, "class A { int a; boolean b; A c; int[] d; I e; boolean[] f; } interface I { } class B extends A { int g; "
            + "boolean h; Object i; } class Main { int main() { B b = new B(); return b.a == 0 && !b.b && b.c == null && b.d == "
            + "null && b.e == null && b.f == null && b.g == 0 && !b.h && b.i == null ? 1 : 0; } }");
        Checks.gives(1, Checks.main("int[] a = new int[3]; boolean[] b = new boolean[3]; Main[] c = new Main[3]; Object[] d = new "
            + "Object[3]; for (int i = 0; i < 3; i = i + 1) if (a[i] != 0 || b[i] || c[i] != null || d[i] != null) return 0; "
            + "return 1;"));
        // Also where something else lay before.
        JinjaTongue x = Checks.program("class A { int a; A b; } class Main { int main() { for (int i = 0; i < 200; i = i + 1) { A a "
            + "= new A(); if (a.a != 0 || a.b != null) return i; a.a = 7; a.b = a; int[] r = new int[2]; if (r[0] != 0 || r[1] "
            + "!= 0) return -i; r[0] = 9; r[1] = 9; } return 1000; } }");
        Checks.due("run", Checks.run(x, 20000, 10), 0);
        Checks.due("result", x.result(), 1000);
        Checks.due("run", Checks.run(x, 20000, 10), 0);
        Checks.due("result", x.result(), 1000);
    }

    private static final String TOLD = " int p(int n) { print(n); return n; } boolean t(int n) { print(n); return true; } boolean "
        + "f(int n) { print(n); return false; } Main o(int n) { print(n); return this; } Main nil(int n) { print(n); return null; } "
        + "int[] row(int n) { print(n); return new int[2]; } int x; int two(int a, int b) { return a * 10 + b; } }";

    private static JinjaTongue told(int result, String statements) {
        return Checks.gives(result, "class Main { int main() { " + statements + " }" + TOLD);
    }

    private static JinjaTongue toldThrows(int thrown, String statements) {
        return Checks.throwsOut(thrown, "class Main { int main() { " + statements + " }" + TOLD);
    }

    /** "&& || ? leave out what is not needed." */
    private static void leftOut() {
        Checks.printed(told(0, "return f(1) && t(2) ? 1 : 0;"), 1);
        Checks.printed(told(1, "return t(1) && t(2) ? 1 : 0;"), 1, 2);
        Checks.printed(told(1, "return t(1) || f(2) ? 1 : 0;"), 1);
        Checks.printed(told(0, "return f(1) || f(2) ? 1 : 0;"), 1, 2);
        Checks.printed(told(5, "return t(1) ? p(5) : p(6);"), 1, 5);
        Checks.printed(told(6, "return f(1) ? p(5) : p(6);"), 1, 6);
        Checks.printed(told(0, "return f(1) & t(2) ? 1 : 0;"), 1, 2);
        Checks.printed(told(1, "return t(1) | f(2) ? 1 : 0;"), 1, 2);
        Checks.printed(told(1, "return f(1) && t(2) || t(3) && t(4) ? 1 : 0;"), 1, 3, 4);
        Checks.printed(told(0, "return (t(1) || t(2)) && f(3) && t(4) ? 1 : 0;"), 1, 3);
    }

    /** "E's are worked out from the left to the right". */
    private static void fromTheLeft() {
        Checks.printed(told(-4, "return p(1) - p(2) - p(3);"), 1, 2, 3);
        Checks.printed(told(7, "return p(1) + p(2) * p(3);"), 1, 2, 3);
        Checks.printed(told(12, "return o(9).two(p(1), p(2));"), 9, 1, 2);
        Checks.printed(told(0, "return row(9)[p(1)];"), 9, 1);
        Checks.printed(told(1, "row(9)[p(1)] = p(2); return 1;"), 9, 1, 2);
        Checks.printed(told(3, "o(9).x = p(3); return x;"), 9, 3);
        Checks.printed(told(1, "return p(1) == p(2) == (p(3) < p(4)) ? 0 : 1;"), 1, 2, 3, 4);
        Checks.printed(told(2, "return new int[p(2)].length;"), 2);
        Checks.printed(told(4, "x = 1; x = x + p(3); return x;"), 3);
        // The left side has its value before the right one changes it.
        Checks.gives(11, "class Main { int x; int up() { x = x + 10; return 1; } int main() { return x + up() + x; } }");
        Checks.gives(21, "class Main { int x; int up() { x = x + 10; return 1; } int main() { int a = up() + x + x; return a; } }");
    }

    /** "Index: one that is none." */
    private static void indexes() {
        for (int size = 0; size <= 3; size++) {
            for (int index = -2; index <= 4; index++) {
                boolean there = index >= 0 && index < size;
                String get = Checks.main("int[] a = new int[" + size + "]; return a[" + index + "] + 1;");
                String put = Checks.main("int[] a = new int[" + size + "]; a[" + index + "] = 5; return a[" + index + "];");
                String object = Checks.main("Object[] a = new Main[" + size + "]; a[" + index + "] = this; return 1;");
                if (there) {
                    Checks.gives(1, get);
                    Checks.gives(5, put);
                    Checks.gives(1, object);
                } else {
                    Checks.throwsOut(INDEX, get);
                    Checks.throwsOut(INDEX, put);
                    Checks.throwsOut(INDEX, object);
                }
            }
        }
        for (String far : new String[] {"2147483647", "-2147483647 - 1", "-2147483647", "1 << 30", "1 << 31"}) {
            Checks.throwsOut(INDEX, Checks.main("return new int[3][" + far + "];"));
            Checks.throwsOut(INDEX, Checks.main("new int[3][" + far + "] = 1; return 1;"));
        }
        Checks.gives(9, Checks.main("int[] a = new int[2997]; a[2996] = 9; return a[2996];"));
        Checks.throwsOut(INDEX, Checks.main("int[] a = new int[2997]; return a[2997];"));
    }

    /** "Size: new SORT [ E ] of E below 0." */
    private static void sizes() {
        for (String sort : new String[] {"int", "boolean", "Main", "Object"}) {
            Checks.gives(0, Checks.main("return new " + sort + "[0].length;"));
            Checks.gives(1, Checks.main("return new " + sort + "[1].length;"));
            Checks.gives(2997, Checks.main("return new " + sort + "[2997].length;"));
            Checks.throwsOut(SIZE, Checks.main("return new " + sort + "[-1].length;"));
            Checks.throwsOut(SIZE, Checks.main("return new " + sort + "[-2147483647].length;"));
            Checks.throwsOut(SIZE, Checks.main("return new " + sort + "[-2147483647 - 1].length;"));
        }
    }

    /** "Null: . [ and a method of null, throw of null." */
    private static void nulls() {
        toldThrows(NULL, "Main m = null; return m.x;");
        toldThrows(NULL, "Main m = null; m.x = 1; return 1;");
        toldThrows(NULL, "Main m = null; return m.p(1);");
        toldThrows(NULL, "int[] a = null; return a.length;");
        toldThrows(NULL, "int[] a = null; return a[0];");
        toldThrows(NULL, "int[] a = null; a[0] = 1; return 1;");
        toldThrows(NULL, "Object[] a = null; a[0] = null; return 1;");
        toldThrows(NULL, "Main m = null; throw m;");
        toldThrows(NULL, "Object m = null; throw m;");
        toldThrows(NULL, "throw null as Main;");
        Checks.throwsOut(NULL, "interface I { int m(); } " + Checks.main("I i = null; return i.m();"));
        Checks.gives(1, Checks.main("Object o = null; return o == null && !(o is Object) && (o as Main) == null && (o as int[]) == "
            + "null ? 1 : 0;"));
    }

    /** "Cast: as TYPE of what is neither null nor of it (as gives what it was; is tells that, false for null)". */
    private static void casts() {
        String classes = "interface I { } interface J extends I { } class A implements I { } class B extends A implements J { } ";
        String[] made = {"new Object()", "new A()", "new B()", "this", "new int[1]", "new boolean[1]", "new Object[1]",
            "new A[1]", "new B[1]", "new I[1]", "new J[1]", "new Zero()"};
        String[] types = {"Object", "A", "B", "Main", "I", "J", "int[]", "boolean[]", "Object[]", "A[]", "B[]", "I[]", "J[]",
            "Zero"};
        String[] is = {
            "10000000000000", "11001000000000", "11101100000000", "10010000000000", "10000010000000", "10000001000000",
            "10000000100000", "10000000110100", "10000000111110", "10000000100100", "10000000100110", "10000000000001"};
        for (int i = 0; i < made.length; i++) {
            for (int j = 0; j < types.length; j++) {
                boolean right = is[i].charAt(j) == '1';
                Checks.gives(right ? 1 : 0, classes + Checks.main("Object o = " + made[i] + "; return o is " + types[j]
                    + " ? 1 : 0;"));
                String cast = classes + Checks.main("Object o = " + made[i] + "; return (o as " + types[j] + ") == o ? 1 : 0;");
                if (right) {
                    Checks.gives(1, cast);
                } else {
                    Checks.throwsOut(CAST, cast);
                }
                Checks.gives(3, classes + Checks.main("Object o = null; return o is " + types[j] + " ? 1 : (o as " + types[j]
                    + ") == null ? 3 : 2;"));
            }
        }
    }

    /** "Store: = to an element of an array of REFERENCES, of what is neither null nor of that type (.. it was made)". */
    private static void stores() {
        String classes = "interface I { } class A implements I { } class B extends A { } ";
        String[] arrays = {"Object", "A", "B", "I", "Main"};
        String[] values = {"new Object()", "new A()", "new B()", "this", "new int[1]", "new A[1]", "null"};
        String[] fits = {"1111111", "0110001", "0010001", "0110001", "0001001"};
        for (int i = 0; i < arrays.length; i++) {
            for (int j = 0; j < values.length; j++) {
                String text = classes + Checks.main("Object[] a = new " + arrays[i] + "[2]; Object v = " + values[j]
                    + "; a[1] = v; return a[1] == v ? 1 : 0;");
                if (fits[i].charAt(j) == '1') {
                    Checks.gives(1, text);
                } else {
                    Checks.throwsOut(STORE, text);
                }
            }
        }
        Checks.gives(2, classes + Checks.main("A[] b = new B[1]; try { b[0] = new A(); } catch (Store s) { return b[0] == null ? 2 "
            + ": 3; } return 4;"));
    }

    /** "throw of null", "throw of an array". */
    private static void throwing() {
        String[] arrays = {"new int[1]", "new boolean[0]", "new Object[1]", "new Main[1]"};
        for (String array : arrays) {
            Checks.throwsOut(CAST, Checks.main("Object o = " + array + "; throw o;"));
        }
        Checks.throwsOut(0, Checks.main("Object o = new Object(); throw o;"));
        Checks.throwsOut(7, Checks.main("Object o = this; throw o;"));
        for (int k = 1; k <= 6; k++) {
            String name = new String[] {"", "Null", "Cast", "Zero", "Index", "Store", "Size"}[k];
            JinjaTongue x = Checks.throwsOut(k, Checks.main("throw new " + name + "();"));
            Checks.due("thrown(1)", x.thrown(1), 0);
            Checks.due("thrown(2)", x.thrown(2), -1);
        }
    }

    /** "Exceptions that come up, behind all parts (of = behind its E, too)"; "Of several: Null, Index, Store." */
    private static void ofSeveral() {
        Checks.printed(toldThrows(NULL, "nil(1).x = p(2); return 1;"), 1, 2);
        Checks.printed(toldThrows(NULL, "return nil(1).two(p(2), p(3));"), 1, 2, 3);
        Checks.printed(toldThrows(NULL, "int[] a = null; return a[p(1)];"), 1);
        Checks.printed(toldThrows(NULL, "int[] a = null; a[p(-1)] = p(2); return 1;"), -1, 2);
        Checks.printed(toldThrows(INDEX, "row(1)[p(2)] = p(3); return 1;"), 1, 2, 3);
        Checks.printed(toldThrows(INDEX, "return row(1)[p(-1)];"), 1, -1);
        Checks.printed(toldThrows(ZERO, "return p(1) / p(0);"), 1, 0);
        Checks.printed(toldThrows(SIZE, "return new int[p(-1)].length;"), -1);
        // What comes up in a part is ahead of what the whole would bring.
        Checks.printed(toldThrows(ZERO, "nil(1).x = p(2) / 0; return 1;"), 1, 2);
        Checks.printed(toldThrows(ZERO, "return nil(1).two(p(2), 1 / 0);"), 1, 2);
        toldThrows(ZERO, "int[] a = null; return a[1 / 0];");
        toldThrows(ZERO, "int[] a = null; a[5] = 1 / 0; return 1;");
        toldThrows(ZERO, "int[] a = new int[1]; a[1 / 0] = new int[-1].length; return 1;");
        toldThrows(NULL, "Main m = null; m.nil(1).x = 1 / 0; return 1;");
        toldThrows(INDEX, "Main[] m = new Main[1]; m[1].x = 1 / 0; return 1;");
        toldThrows(NULL, "Main[] m = new Main[1]; m[0].x = 1; return 1;");
        toldThrows(NULL, "Object[] a = null; a[-1] = this; return 1;");
        toldThrows(INDEX, "Object[] a = new Zero[1]; a[-1] = this; return 1;");
        toldThrows(INDEX, "Object[] a = new Zero[1]; a[1] = this; return 1;");
        toldThrows(STORE, "Object[] a = new Zero[1]; a[0] = this; return 1;");
        // What was to be changed is not.
        Checks.gives(3, Checks.main("int x = 3; try { x = 1 / 0; } catch (Zero z) { } return x;"));
        Checks.gives(4, "class Main { int x; int main() { x = 4; try { x = new int[1][1]; } catch (Index i) { } return x; } }");
        Checks.gives(5, Checks.main("int[] a = new int[1]; a[0] = 5; try { a[0] = 1 % 0; } catch (Zero z) { } return a[0];"));
    }

    /** "Each of the six is one object, that is there always and has no CELLS." */
    private static void sixObjects() {
        String[] raise = {"throw null as Main;", "Object o = this as Object as Zero;", "print(1 / 0);", "print(new int[0][0]);",
            "Object[] a = new Zero[1]; a[0] = this;", "Object a = new int[-1];"};
        String[] names = {"Null", "Cast", "Zero", "Index", "Store", "Size"};
        for (int i = 0; i < raise.length; i++) {
            JinjaTongue x = Checks.throwsOut(i + 1, Checks.main(raise[i] + " return 1;"));
            Checks.due("thrown(1)", x.thrown(1), 0);
            int made = i == 3 || i == 4 ? 2 : 1;
            Checks.due("count(8) of " + raise[i], x.count(8), made);
            Checks.gives(1, Checks.main("Object f = null; Object g = null; try { " + raise[i] + " } catch (" + names[i]
                + " z) { f = z; } try { " + raise[i] + " } catch (Object z) { g = z; } return f == g && f != null && f is "
                + names[i] + " && new " + names[i] + "() != f ? 1 : 0;"));
            // It is none of the others.
            for (int j = 0; j < names.length; j++) {
                Checks.gives(i == j ? 1 : 2, Checks.main("try { " + raise[i] + " } catch (" + names[j] + " z) { return 1; } catch "
                    + "(Object z) { return 2; } return 3;"));
            }
        }
    }

    /** "A method that is called: that of the object's class, or of the nearest one that it extends which has one (super ..)". */
    private static void calledMethods() {
        String classes = "interface I { int m(); } class A implements I { int m() { return 1; } int n() { return m(); } } class B "
            + "extends A { } class C extends B { int m() { return 3; } int up() { return super.m(); } } class D extends C { int "
            + "up() { return super.up() * 10 + super.m(); } } class E extends D { int m() { return 5; } } ";
        int[] due = {1, 1, 3, 3, 5};
        String[] names = {"A", "B", "C", "D", "E"};
        for (int i = 0; i < names.length; i++) {
            Checks.gives(due[i], classes + Checks.main("return new " + names[i] + "().m();"));
            Checks.gives(due[i], classes + Checks.main("I x = new " + names[i] + "(); return x.m();"));
            Checks.gives(due[i], classes + Checks.main("A x = new " + names[i] + "(); return x.n();"));
        }
        Checks.gives(1, classes + Checks.main("return new C().up();"));
        Checks.gives(13, classes + Checks.main("return new D().up();"));
        Checks.gives(13, classes + Checks.main("return new E().up();"));
    }

    /** "print: a number more of the OUTPUT (beyond 400 nothing comes)." */
    private static void outputs() {
        for (int n : new int[] {0, 1, 399, 400, 401, 450}) {
            JinjaTongue x = Checks.program(Checks.main("int n = read(); for (int i = 1; i <= n; i = i + 1) print(i); return n;"));
            x.input(n);
            Checks.due("run", Checks.run(x, 20000, 10), 0);
            Checks.due("result", x.result(), n);
            int most = Math.min(n, 400);
            Checks.due("count(6)", x.count(6), most);
            for (int i = -1; i <= 401; i++) {
                Checks.due("output(" + i + ")", x.output(i), i >= 0 && i < most ? i + 1 : 0);
            }
            // FUEL is taken beyond 400, too: main, two statements, a return, a look more than prints.
            Checks.due("count(5)", x.count(5), 20000 - 5 - 2 * n);
        }
    }

    /** "read gives the next number of the INPUT, 0 behind the last one." */
    private static void reads() {
        JinjaTongue x = Checks.program(Checks.main("int s = 0; for (int i = 0; i < 202; i = i + 1) s = s * 3 + read(); return s;"));
        int due = 0;
        for (int i = 0; i < 200; i++) {
            x.input(i * i - 50);
            due = due * 3 + i * i - 50;
        }
        Checks.due("run", Checks.run(x, 20000, 10), 0);
        Checks.due("result", x.result(), due * 9);
        Checks.due("count(7)", x.count(7), 202);
        Checks.due("count(1)", x.count(1), 200);
        x.forget();
        Checks.due("run", Checks.run(x, 20000, 10), 0);
        Checks.due("result", x.result(), 0);
        Checks.due("count(7)", x.count(7), 202);
    }
}
