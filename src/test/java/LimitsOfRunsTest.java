/** Chapter 4, FUEL, DEEP, ROOM and what is HELD: the last run that goes on, and the first one that does not. */
public final class LimitsOfRunsTest {
    public static void main(String[] args) {
        fuelOfStatements();
        fuelAhead();
        openCalls();
        widestCalls();
        fuelNullDeep();
        leastAndMostCells();
        roomOfThings();
        roomIsNoException();
        heldVariables();
        heldParts();
        heldOnTheWay();
        sameWheneverCollected();
        heldAndWhole();
        thrownAndWhole();
        outward();
        Checks.end();
    }

    /** Ends with just so much FUEL, all of it used, and with no less. */
    private static void takes(int fuel, String text) {
        JinjaTongue x = Checks.program(text);
        Checks.due("run(" + fuel + ") of " + text, Checks.run(x, fuel, 3000), 0);
        Checks.due("count(5)", x.count(5), 0);
        Checks.due("run(" + (fuel - 1) + ") of " + text, Checks.run(x, fuel - 1, 3000), 2);
        Checks.due("count(5)", x.count(5), 0);
        Checks.due("result", x.result(), 0);
    }

    /** Besides the call of main and its return. */
    private static void statements(int fuel, String statements) {
        takes(fuel + 2, "class Main { int x; int[] r; int main() { " + statements + " return 1; } void v() { } int w(int a) { return "
            + "a; } Main self() { return this; } } ");
    }

    /** "one for each STATEMENT that begins, and each LOCAL (not BLOCKS, ; , FIRST, NEXT), for each time that a while ..". */
    private static void fuelOfStatements() {
        statements(1, "x = 1;");
        statements(1, "this.x = 1;");
        statements(1, "int y;");
        statements(1, "int y = 1;");
        statements(0, "{ } ; { ; }");
        statements(1, "print(1);");
        statements(1, "if (false) x = 1;");
        statements(2, "if (true) x = 1;");
        statements(1, "if (true) { }");
        statements(2, "if (true) { x = 1; }");
        statements(2, "while (false) ;");
        statements(4, "while (x < 1) x = x + 1;");
        statements(1 + 11 + 10, "while (x < 10) x = x + 1;");
        statements(2, "for (; false; ) ;");
        statements(2, "for (x = 1; x < 1; x = 2) ;");
        statements(1 + 11, "for (x = 0; x < 10; x = x + 1) ;");
        statements(1 + 11, "for (int i = 0; i < 10; i = i + 1) { ; }");
        statements(1 + 11 + 10, "for (int i = 0; i < 10; i = i + 1) { x = i; }");
        statements(1 + 1 + 1, "while (true) break;");
        statements(1 + 1 + 2, "for (; ; ) { x = 1; break; }");
        statements(1 + 3 + 2 * 2, "for (int i = 0; i < 2; i = i + 1) { x = 1; continue; }");
        statements(1 + 3 + 2 * 2, "for (int i = 0; i < 2; i = i + 1) if (true) continue;");
        statements(1, "try { } finally { }");
        statements(3, "try { x = 1; } finally { x = 2; }");
        statements(3, "try { throw this; } catch (Main m) { x = 1; }");
        statements(3, "try { print(1 / 0); } catch (Main m) { x = 9; } catch (Zero z) { x = 1; }");
        statements(4, "try { throw this; } catch (Main m) { x = 1; } finally { x = 2; }");
        // "each new .., and each call".
        statements(2, "v();");
        statements(2, "this.v();");
        statements(3, "x = w(1);");
        statements(5, "x = w(w(1));");
        statements(6, "self().self().v();");
        statements(2, "r = new int[3];");
        statements(2, "Object o = new Main();");
        statements(3, "new Main().v();");
        statements(4, "r = new int[new int[3].length]; int y;");
        statements(1, "boolean b = false && new Main() == null;");
        statements(1, "boolean b = true || w(1) == 1;");
        statements(3, "int y = true ? w(1) : w(w(1));");
        takes(4, "class A { void v() { } } class Main extends A { int main() { super.v(); return 1; } }");
        // The object of Main takes none.
        takes(2, "class Main { int a, b, c; int main() { return 1; } }");
    }

    /** "behind its size, ahead of Size and ROOM"; "behind its arguments, ahead of Null". */
    private static void fuelAhead() {
        String[] texts = {"return new int[p(-1)].length;", "return new int[p(2147483647)].length;", "Main m = null; m.two(p(1), "
            + "p(2)); return 1;", "return p(1) / p(0);"};
        int[] ends = {1, 3, 1, 1};
        int[] fuel = {1 + 1 + 3 + 1, 1 + 1 + 3 + 1, 1 + 1 + 1 + 6 + 1, 1 + 1 + 6};
        for (int i = 0; i < texts.length; i++) {
            JinjaTongue x = Checks.program("class Main { int main() { " + texts[i] + " } int p(int n) { print(n); return n; } void "
                + "two(int a, int b) { } }");
            Checks.due("run of " + texts[i], Checks.run(x, fuel[i], 3000), ends[i]);
            Checks.due("count(5)", x.count(5), 0);
            Checks.due("run of " + texts[i], Checks.run(x, fuel[i] - 1, 3000), 2);
            Checks.due("count(5)", x.count(5), 0);
            // All parts have been worked out already, but in the last one, which takes none itself.
            Checks.due("count(6)", x.count(6), i < 2 ? 1 : 2);
        }
        // Nothing at all: the call of main.
        JinjaTongue x = Checks.program(Checks.main("print(1); return 1;"));
        Checks.due("run(0, 10)", Checks.run(x, 0, 10), 2);
        Checks.due("count(10)", x.count(10), 0);
        Checks.due("run(1, 10)", Checks.run(x, 1, 10), 2);
        Checks.due("count(10)", x.count(10), 1);
        Checks.printed(x);
        Checks.due("run(2, 10)", Checks.run(x, 2, 10), 2);
        Checks.printed(x, 1);
        Checks.due("run(3, 10)", Checks.run(x, 3, 10), 0);
        Checks.due("count(5)", x.count(5), 0);
        // Much of it: 20,000 is enough for 19,998 of them, and one more is too many.
        JinjaTongue y = Checks.program(Checks.main("int n = read(); for (int i = 0; i < n; i = i + 1) ; return n;"));
        y.input(20000 - 5);
        Checks.due("run(20000, 10)", Checks.run(y, 20000, 10), 0);
        Checks.due("count(5)", y.count(5), 0);
        Checks.due("result", y.result(), 20000 - 5);
        y.forget();
        y.input(20000 - 4);
        Checks.due("run(20000, 10)", Checks.run(y, 20000, 10), 2);
        Checks.due("result", y.result(), 0);
    }

    /** "4 DEEP: a call while 100 are open." */
    private static void openCalls() {
        String[] ways = {"down(n - 1)", "this.down(n - 1)", "new Main().down(n - 1)", "(this as I).down(n - 1)", "self().down(n - 1)"};
        for (String way : ways) {
            JinjaTongue x = Checks.program("interface I { int down(int n); } class Main implements I { int main() { return down(read("
                + ")); } Main self() { return this; } int down(int n) { if (n == 0) return 0; return " + way + " + 1; } }");
            x.input(98);
            Checks.due("run of " + way, Checks.run(x, 20000, 3000), 0);
            Checks.due("result", x.result(), 98);
            Checks.due("count(11)", x.count(11), 100);
            x.forget();
            x.input(99);
            Checks.due("run of " + way, Checks.run(x, 20000, 3000), 4);
            Checks.due("result", x.result(), 0);
            Checks.due("thrown(0)", x.thrown(0), -1);
            Checks.due("count(11)", x.count(11), 100);
        }
        // super, too.
        JinjaTongue x = Checks.program("class A { int down(int n) { return n == 0 ? 0 : (this as Main).go(n); } } class Main extends A "
            + "{ int go(int n) { return super.down(n - 1) + 1; } int down(int n) { return 0; } int main() { return go(read()); } }");
        for (int n = 49; n <= 51; n++) {
            x.forget();
            x.input(n);
            Checks.due("run of " + n, Checks.run(x, 20000, 3000), n < 50 ? 0 : 4);
            Checks.due("count(11)", x.count(11), n < 50 ? 99 : 100);
        }
        // Calls that have ended are not open.
        JinjaTongue y = Checks.gives(300, Checks.main("int s = 0; for (int i = 0; i < 300; i = i + 1) s = s + one(); return s; } int one"
            + "() { return 1;"));
        Checks.due("count(10)", y.count(10), 301);
        Checks.due("count(11)", y.count(11), 2);
        // Nor are those out of which an exception went.
        JinjaTongue z = Checks.gives(300, Checks.main("int s = 0; for (int i = 0; i < 300; i = i + 1) { try { deep(i % 50); } catch (Zero "
            + "z) { s = s + 1; } } return s; } int deep(int n) { return n == 0 ? 1 / n : deep(n - 1);"));
        Checks.due("count(11)", z.count(11), 51);
    }

    /** A hundred open calls, each with thirty variables, and within nineteen calls' arguments. */
    private static void widestCalls() {
        StringBuilder locals = new StringBuilder();
        for (int i = 0; i < 22; i++) {
            locals.append("Object v").append(i).append(" = r; ");
        }
        String inner = "f(1, 2, 3, 4, 5, 6, 7, n - 1)";
        for (int i = 0; i < 18; i++) {
            inner = "g(1, 2, 3, 4, 5, 6, 7, 1 | 0 ^ 0 & " + inner + ")";
        }
        JinjaTongue x = Checks.program("class Main { int[] r; int g(int a, int b, int c, int d, int e, int f, int g, int n) { return n; } "
            + "int f(int a, int b, int c, int d, int e, int f, int g, int n) { " + locals + "r = new int[8]; if (n == 0) return 1; return "
            + inner + "; } int main() { return f(1, 2, 3, 4, 5, 6, 7, read()); } }");
        for (int n : new int[] {50, 98, 99, 150}) {
            boolean ends = n < 99;
            x.forget();
            x.input(n);
            Checks.due("run of " + n, Checks.run(x, 20000, 3000), ends ? 0 : 4);
            Checks.due("result", x.result(), ends ? 1 : 0);
            Checks.due("count(8)", x.count(8), ends ? 2 + n : 100);
            Checks.due("count(11)", x.count(11), ends ? 2 + n : 100);
            Checks.due("refusals", x.refusals(), 0);
        }
    }

    /** "each call .. (behind its arguments, ahead of Null, and that ahead of DEEP)". */
    private static void fuelNullDeep() {
        JinjaTongue x = Checks.program("class Main { Main m; int main() { int n = read(); if (n == 0) return main(); return n == 1 ? m."
            + "main() : main(); } }");
        for (int last = 1; last <= 2; last++) {
            x.forget();
            for (int i = 0; i < 99; i++) {
                x.input(0);
            }
            x.input(last);
            // Each of the first 99 calls takes four: itself, the LOCAL, the if and its return; the 100th likewise.
            Checks.due("no FUEL", Checks.run(x, 400, 10), 2);
            Checks.due("count(10)", x.count(10), 100);
            Checks.due("one more", Checks.run(x, 401, 10), last == 1 ? 1 : 4);
            Checks.due("count(5)", x.count(5), 0);
            Checks.due("count(10)", x.count(10), 100);
            Checks.due("count(11)", x.count(11), 100);
            Checks.due("thrown(0)", x.thrown(0), last == 1 ? 1 : -1);
        }
    }

    /** Ends with just so many CELLS, and without ROOM with one less. */
    private static void needs(int cells, String text) {
        JinjaTongue x = Checks.program(text);
        Checks.due("run(20000, " + cells + ") of " + text, Checks.run(x, 20000, cells), 0);
        Checks.due("run(20000, " + (cells - 1) + ") of " + text, Checks.run(x, 20000, cells - 1), 3);
        Checks.due("result", x.result(), 0);
    }

    private static void leastAndMostCells() {
        JinjaTongue x = Checks.program(Checks.main("int[] a = new int[read()]; return a.length;"));
        int[][] rows = {{10, 7, 0}, {10, 8, 3}, {3000, 2997, 0}, {3000, 2998, 3}, {3000, 2147483647, 3}, {3000, 2147483646, 3},
            {3000, 2147483645, 3}, {10, 0, 0}, {10, -1, 1}};
        for (int[] row : rows) {
            x.forget();
            x.input(row[1]);
            Checks.due("run(100, " + row[0] + ") of " + row[1], Checks.run(x, 100, row[0]), row[2]);
            Checks.due("count(8)", x.count(8), row[2] == 0 ? 2 : 1);
            Checks.due("count(9)", x.count(9), row[2] == 0 ? row[1] + 3 : 1);
        }
    }

    /** "an object 1 and 1 for each field (own and from above), an array 2 and 1 for each element." */
    private static void roomOfThings() {
        for (int n = 10; n < 20; n++) {
            needs(n + 3, Checks.main("int[] a = new int[" + n + "]; return 1;"));
            needs(n + 3, Checks.main("boolean[] a = new boolean[" + n + "]; return 1;"));
            needs(n + 3, Checks.main("Object a = new Main[" + n + "]; return 1;"));
            StringBuilder fields = new StringBuilder("int f0");
            for (int i = 1; i < n; i++) {
                fields.append(", f").append(i);
            }
            needs(n + 2, "class A { " + fields + "; } " + Checks.main("A a = new A(); return 1;"));
            needs(n + 3, "class A { " + fields + "; } class B extends A { boolean b; } " + Checks.main("B a = new B(); return 1;"));
            needs(n + 1, "class Main { " + fields + "; int main() { return 1; } }");
        }
        needs(12, Checks.main("Object[] a = new Object[2]; a[0] = new Zero(); a[1] = new int[3]; Object b = new Object(); return 1;"));
    }

    /** ROOM ends the run: no CATCH and no LAST has it. */
    private static void roomIsNoException() {
        for (String made : new String[] {"new int[9]", "new Object[9]", "new A()"}) {
            JinjaTongue x = Checks.program("class A { int a, b, c, d, e, f, g, h, i, j; } " + Checks.main("try { print(1); Object o = "
                + made + "; print(2); } catch (Object o) { print(3); } finally { print(4); } return 1;"));
            Checks.due("run", Checks.run(x, 100, 11), 3);
            Checks.printed(x, 1);
            Checks.due("thrown(0)", x.thrown(0), -1);
            Checks.due("count(8)", x.count(8), 1);
            Checks.due("run", Checks.run(x, 100, 12), 0);
            Checks.printed(x, 1, 2, 4);
        }
    }

    /** R stands for an array of ten CELLS; besides there is the object of Main, of one. */
    private static void held(int cells, String statements, String members) {
        needs(cells, ("class Main { int main() { " + statements + " return 1; } " + members + " } class Box { Object a; Object b; } ")
            .replace("R", "new int[8]"));
    }

    private static void held(int cells, String statements) {
        held(cells, statements, "");
    }

    /** "this; PARAMETERS, LOCALS, catch's NAMES in scope (as they are)". */
    private static void heldVariables() {
        held(11, "Object a = R;");
        held(21, "Object a = R; Object b = R;");
        held(21, "Object a = R; a = R;");
        held(11, "Object a = R; a = null; a = R;");
        held(11, "{ Object a = R; } Object b = R;");
        held(21, "{ Object a = R; { Object b = R; } }");
        held(11, "Object a; Object b = R;");
        held(11, "m(R);", "void m(Object p) { p = null; p = R; }");
        held(21, "m(R);", "void m(Object p) { p = R; }");
        held(21, "m(R);", "void m(Object p) { Object q = R; }");
        held(21, "m(1, R);", "void m(int o, Object p) { Object q = R; }");
        held(11, "m(R); m(R);", "void m(Object p) { }");
        held(21, "Object a = R; m(a);", "void m(Object p) { p = null; Object q = R; }");
        held(14, "try { throw new Box(); } catch (Box b) { Object q = R; }");
        held(14, "try { throw new Box(); } catch (Box b) { b = null; } Object q = new int[11];");
        held(11, "try { throw new Box(); } catch (Box b) { } Object q = R;");
        held(11, "try { throw new Box(); } catch (Box b) { b = null; Object q = R; }");
        // this: also where nothing refers to it any more, as long as the call is open.
        held(14, "new Big().go();", "} class Big { int a, b; void go() { Object q = R; }");
        held(13, "new Big().go(); Object q = new int[10];", "} class Big { int a, b; void go() { }");
        held(21, "Object[] a = new Object[8]; { Object b = R; } Object c = R;");
        // What begins again is empty.
        held(11, "for (int i = 0; i < 3; i = i + 1) { Object a; if (i == 0) a = R; else { Object b = R; } }");
        held(11, "for (int i = 0; i < 3; i = i + 1) { Object a = R; }");
        held(11, "for (int i = 0; i < 3; i = i + 1) { Object a = R; continue; }");
    }

    /** "of an E that is worked out the values of its parts as long as they are needed (operands, what stands ahead of ..". */
    private static void heldParts() {
        held(21, "boolean b = R == R;");
        held(11, "boolean b = R.length == R.length;");
        held(11, "boolean b = (R == null) == (R == null);");
        held(21, "R[R.length - 8] = 1;");
        held(21, "int a = R[R[0]];");
        held(11, "int a = R[0] + R[0];");
        held(14, "new Box().a = R;");
        held(14, "new Box().b = R as Object;");
        held(24, "new Box().a = R == R ? null : null;");
        held(13, "int a = new Object[0].length + new int[10].length;");
        held(14, "new Object[1][0] = R;");
        held(21, "m(R, R);", "void m(Object a, Object b) { }");
        held(31, "m(R, R, R);", "void m(Object a, Object b, Object c) { }");
        held(21, "m(R, m(R, null));", "Object m(Object a, Object b) { return null; }");
        held(11, "m(m(R));", "Object m(Object a) { a = null; return R; }");
        held(21, "m(m(R));", "Object m(Object a) { Object b = R; return a; }");
        held(24, "new Box().a = n(R);", "Object n(Object a) { Object b = R; return b; }");
        held(11, "boolean b = R is int[] && R is Object;");
        held(11, "Object b = R != null ? R : null;");
        held(11, "if (R != null) { Object b = R; }");
        held(11, "while (R == null) ; Object b = R;");
        held(11, "print(R.length); Object b = R;");
        held(11, "m(); Object b = R;", "Object m() { return R; }");
        // The caller's parts while a call is open.
        held(21, "boolean b = R == m();", "Object m() { return R; }");
        held(21, "boolean b = R == m();", "Object m() { Object a = R; return null; }");
        held(11, "boolean b = m() == null;", "Object m() { Object a = R; return null; }");
        held(31, "n(R, m());", "Object m() { return R == R ? null : null; } void n(Object a, Object b) { }");
    }

    /** "of return's value and an exception on their way while LAST is done". */
    private static void heldOnTheWay() {
        held(21, "Object a = m();", "Object m() { try { return R; } finally { Object b = R; } }");
        held(11, "int a = m();", "int m() { try { return R.length; } finally { Object b = R; } }");
        held(11, "m();", "void m() { try { Object a = R; return; } finally { Object b = R; } }");
        held(21, "Object a = m();", "Object m() { try { try { return R; } finally { print(1); } } finally { Object b = R; } }");
        held(21, "try { m(); } catch (Big b) { }", "void m() { try { throw new Big(); } finally { Object b = R; } } } class Big { "
            + "int a, b, c, d, e, f, g, h, i;");
        held(21, "try { m(); } catch (Big b) { Object c = R; }", "void m() { throw new Big(); } } class Big { int a, b, c, d, e, f, g"
            + ", h, i;");
        held(11, "try { m(); } catch (Big b) { } Object c = R;", "void m() { throw new Big(); } } class Big { int a, b, c, d, e, f, g"
            + ", h, i;");
        held(11, "try { m(); } catch (Big b) { } finally { Object c = R; }", "void m() { throw new Big(); } } class Big { int a, b, c"
            + ", d, e, f, g, h, i;");
        // What a BLOCK's or a CATCH's variables had is not on the way.
        held(11, "try { Object a = R; } finally { Object b = R; }");
        held(11, "try { int q = 1; Object a = R; } finally { Object b = R; }");
        held(11, "try { int q = 1; int r = 1; Object a = R; } finally { int s = 1; Object b = R; }");
        held(11, "try { print(1 / 0); } catch (Zero z) { Object a = R; } finally { Object b = R; }");
        held(11, "try { print(1 / 0); } catch (Zero z) { int q = 1; Object a = R; } finally { Object b = R; }");
        held(11, "while (true) { try { int q = 1; Object a = R; break; } finally { Object b = R; } }");
        held(11, "m();", "void m() { try { int q = 1; Object a = R; return; } finally { Object b = R; } }");
        held(11, "try { int q = 1; Object a = R; print(1 / 0); } catch (Zero z) { Object b = R; }");
        held(11, "try { int q = 1; Object a = R; print(1 / 0); } catch (Zero z) { int r = 1; Object b = R; }");
        // What takes its place lets it go.
        held(11, "m(); Object a = R;", "void m() { while (true) { try { throw new Big(); } finally { break; } } } } class Big { int a"
            + ", b, c, d, e, f, g, h, i;");
        held(21, "m();", "int m() { while (true) { try { throw new Big(); } finally { Object c = R; break; } } return 1; } } class "
            + "Big { int a, b, c, d, e, f, g, h, i;");
        held(11, "m();", "int m() { while (true) { try { throw new Big(); } finally { break; } } Object c = R; return 1; } } class "
            + "Big { int a, b, c, d, e, f, g, h, i;");
        // Of break and continue there is nothing on the way.
        held(11, "while (true) { try { Object a = R; break; } finally { Object b = R; } }");
        held(11, "for (int i = 0; i < 2; i = i + 1) { try { Object a = R; continue; } finally { Object b = R; } }");
    }

    /** "what comes of it is the same whenever the heap is collected". */
    private static void sameWheneverCollected() {
        String text = "class Node { Node left, right; int key; Object[] more; } class Main { Node root; int size; void add(int key) { "
            + "Node n = new Node(); n.key = key; n.more = new Object[key % 3]; if (key % 3 > 0) n.more[0] = n; size = size + 1; if "
            + "(root == null) { root = n; return; } Node at = root; while (true) { if (key < at.key) { if (at.left == null) { at.left "
            + "= n; return; } at = at.left; } else { if (at.right == null) { at.right = n; return; } at = at.right; } } } int sum("
            + "Node n, int d) { if (n == null) return 0; Node[] hold = new Node[2]; hold[0] = n; int a = sum(n.left, d + 1); hold[1] "
            + "= hold[0]; int b = sum(hold[1].right, d + 1); if (hold[0].more.length > 0 && hold[0].more[0] != n) return -1; return a "
            + "* 3 + b * 5 + n.key * d; } int main() { int s = 0; for (int r = 0; r < 3; r = r + 1) { root = null; int k = 17; for "
            + "(int i = 0; i < 25; i = i + 1) { k = k * 31 + 7 & 1023; add(k); } s = s * 7 + sum(root, 1); print(s); } return s; } }";
        JinjaTongue whole = Checks.program(text);
        Checks.due("run", Checks.run(whole, 20000, 3000), 0);
        int least = 0;
        JinjaTongue x = Checks.program(text);
        for (int cells = 120; cells <= 400 && least == 0; cells++) {
            if (Checks.run(x, 20000, cells) == 0) {
                least = cells;
            }
        }
        Checks.due("there is a least", least > 120 ? 1 : 0, 1);
        JinjaTongue y = Checks.program(text);
        for (int cells = least; cells < least + 12; cells++) {
            Checks.due("run(20000, " + cells + ")", Checks.run(y, 20000, cells), 0);
            Checks.due("result", y.result(), whole.result());
            Checks.printed(y, whole.output(0), whole.output(1), whole.output(2));
            for (int what = 5; what <= 11; what++) {
                Checks.due("count(" + what + ")", y.count(what), whole.count(what));
            }
        }
        Checks.due("refusals", x.refusals() + y.refusals() + whole.refusals(), 0);
    }

    /** With few CELLS waste() has the heap collected: what is held is still there behind it, and the same. */
    private static void whole(int result, String statements) {
        JinjaTongue x = Checks.program("class Main { int n; Main next; Object[] all; int main() { " + statements + " } int waste(int k) { "
            + "for (int i = 0; i < 40; i = i + 1) { int[] w = new int[3]; w[0] = 99; w[1] = 99; w[2] = 99; } return k; } Main made(int k)"
            + " { Main m = new Main(); m.n = k; waste(1); return m; } Main same(Main m) { waste(1); return m; } int own() { waste(1); "
            + "return n; } int both(Main a, Main b) { waste(1); return a.n * 10 + b.n; } Main last(int k) { try { return made(k); } "
            + "finally { waste(1); } } void thrown(int k) { try { throw made(k); } finally { waste(1); } } }");
        for (int cells = 30; cells <= 60; cells++) {
            Checks.due("run(20000, " + cells + ") of " + statements, Checks.run(x, 20000, cells), 0);
            Checks.due("result of " + statements, x.result(), result);
        }
    }

    private static void heldAndWhole() {
        whole(5, "Main m = made(5); waste(1); return m.n;");
        whole(5, "n = 5; waste(1); return n;");
        whole(5, "return made(5).own();");
        whole(56, "return both(made(5), made(6));");
        whole(5, "return same(made(5)).n;");
        whole(11, "return made(5).n + made(6).n;");
        whole(1, "Main m = made(5); return m == same(m) ? 1 : 0;");
        whole(0, "return made(5) == made(5) ? 1 : 0;");
        whole(7, "Main m = made(5); m.n = waste(7); return m.n;");
        whole(8, "int[] a = new int[2]; a[waste(1)] = waste(8); return a[1];");
        whole(5, "all = new Object[3]; all[2] = made(5); all[0] = all[2]; waste(1); return all[0] == all[2] ? (all[0] as Main).n : 0;");
        whole(6, "next = made(5); next.next = made(6); next.next.next = next; waste(1); return next.next.next.next.n;");
        whole(5, "return last(5).n;");
        whole(5, "try { thrown(5); } catch (Main m) { waste(1); return m.n; } return 0;");
        whole(5, "try { try { thrown(5); } finally { waste(1); } } catch (Main m) { return m.n; } return 0;");
        whole(5, "try { try { thrown(5); } catch (Main m) { waste(1); throw m; } finally { waste(1); } } catch (Main m) { return m.n; } "
            + "return 0;");
        whole(1, "Object z = null; try { print(1 / 0); } catch (Zero e) { z = e; } waste(1); try { print(1 % 0); } catch (Zero e) { return "
            + "e == z ? 1 : 0; } return 2;");
        whole(9, "int a = 4; boolean b = true; Main m = null; waste(1); return b && m == null ? a + 5 : 0;");
        whole(1, "Object o = new Main[2]; waste(1); return o is Main[] && !(o is Zero[]) && (o as Main[]).length == 2 ? 1 : 0;");
        whole(5, "for (Main m = made(5); ; m = made(6)) { waste(1); return m.n; }");
        whole(3, "Main m = made(1); m.next = made(2); return waste(m.n) + waste(m.next.n);");
    }

    /** Of the exception that nothing caught all fields are there, wherever its object has come to lie. */
    private static void thrownAndWhole() {
        JinjaTongue x = Checks.program("class E extends Zero { int a; E b; boolean c; int[] d; Object e; } class Main { int main() { int[] "
            + "gone = new int[5]; E e = new E(); e.a = 41; e.b = e; e.c = true; gone = null; try { for (int i = 0; i < 30; i = i + 1) { "
            + "int[] w = new int[4]; w[0] = 7; } throw e; } finally { for (int i = 0; i < 30; i = i + 1) { int[] w = new int[3]; w[2] = 9"
            + "; } e.a = e.a + 1; } } }");
        int[] due = {7, 5, 42, 1, 1, 0, 0};
        for (int cells = 14; cells <= 40; cells++) {
            Checks.due("run(20000, " + cells + ")", Checks.run(x, 20000, cells), 1);
            for (int what = 0; what < due.length; what++) {
                Checks.due("thrown(" + what + ")", x.thrown(what), due[what]);
            }
        }
    }

    /** "throw goes outward: to the first CATCH, of the innermost try around in whose BLOCK it comes up, of whose class ..". */
    private static void outward() {
        String classes = "class E extends Zero { } class F extends E { } ";
        String[] thrown = {"new F()", "new E()", "new Zero()", "new Null()", "this"};
        int[] due = {1, 2, 3, 4, 4};
        for (int i = 0; i < thrown.length; i++) {
            Checks.gives(due[i], classes + Checks.main("try { throw " + thrown[i] + "; } catch (F f) { return 1; } catch (E e) { return "
                + "2; } catch (Zero z) { return 3; } catch (Object o) { return 4; }"));
            // The first one, not the nearest class.
            Checks.gives(i < 3 ? 1 : 4, classes + Checks.main("try { throw " + thrown[i] + "; } catch (Zero z) { return 1; } catch (E e) {"
                + " return 2; } catch (F f) { return 3; } catch (Object o) { return 4; }"));
            // The innermost try that has one.
            Checks.gives(i < 2 ? 1 : 2, classes + Checks.main("try { try { throw " + thrown[i] + "; } catch (E e) { return 1; } } catch "
                + "(Object o) { return 2; }"));
        }
        // In whose BLOCK it comes up: not in a CATCH, nor in LAST.
        Checks.gives(2, Checks.main("try { try { throw new Zero(); } catch (Zero z) { throw new Zero(); } catch (Object o) { return 1; } } "
            + "catch (Zero z) { return 2; }"));
        Checks.gives(2, Checks.main("try { try { } catch (Zero z) { return 1; } finally { throw new Zero(); } } catch (Zero z) { return 2; "
            + "}"));
        Checks.throwsOut(3, Checks.main("try { } catch (Zero z) { return 1; } throw new Zero();"));
        Checks.throwsOut(3, Checks.main("if (read() == 0) throw new Zero(); try { } catch (Zero z) { return 1; } return 2;"));
        // At their end, and each way outward, LAST is done once.
        String[] blocks = {"print(1);", "print(1); throw new Null();", "print(1); if (read() == 0) return 5;", "print(1); break;",
            "print(1); continue;"};
        int[] ends = {7, 1, 5, 7, 7};
        for (int i = 0; i < blocks.length; i++) {
            String loop = "for (int i = 0; i < 1; i = i + 1) { try { %1 } catch (Zero z) { %2 } finally { print(9); } } return 7;";
            String first = Checks.main(loop.replace("%1", blocks[i]).replace("%2", ""));
            String second = Checks.main(loop.replace("%1", "throw new Zero();").replace("%2", blocks[i]));
            for (String text : new String[] {first, second}) {
                JinjaTongue x = i == 1 ? Checks.throwsOut(ends[i], text) : Checks.gives(ends[i], text);
                Checks.printed(x, 1, 9);
            }
        }
        // What leaves LAST takes the place of what was on its way.
        String[] ways = {"return 1;", "throw new Null();", "break;", "continue;", "print(1);"};
        for (String way : ways) {
            Checks.gives(3, Checks.main("for (int i = 0; i < 1; i = i + 1) { try { " + way + " } finally { return 3; } } return 7;"));
            Checks.throwsOut(3, Checks.main("for (int i = 0; i < 1; i = i + 1) { try { " + way + " } finally { throw new Zero(); } } "
                + "return 7;"));
            Checks.gives(7, Checks.main("for (int i = 0; i < 1; i = i + 1) { try { " + way + " } finally { break; } } return 7;"));
            Checks.gives(7, Checks.main("for (int i = 0; i < 1; i = i + 1) { try { " + way + " } finally { continue; } } return 7;"));
        }
    }
}
