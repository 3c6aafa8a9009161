/** Promise 11, ROOM: what is reachable, to the cell. */
public final class HeapTest {
    public static void main(String[] args) {
        sizes();
        variables();
        operands();
        calls();
        tries();
        graphs();
        unmade();
        Checks.end();
    }

    /** Ends well with just so many CELLS, and without ROOM with one less. */
    private static void needs(int cells, String text) {
        JinjaTongue x = Checks.program(text);
        Checks.due("run(20000, " + cells + ") of " + text, Checks.run(x, 20000, cells), 0);
        if (cells > 10) {
            Checks.due("run(20000, " + (cells - 1) + ") of " + text, Checks.run(x, 20000, cells - 1), 3);
            Checks.due("result", x.result(), 0);
            Checks.due("thrown(0)", x.thrown(0), -1);
        }
        Checks.due("refusals", x.refusals(), 0);
    }

    /** The object of Main has one cell, R, which stands for new int[8], ten. */
    private static void statements(int cells, String statements) {
        statements(cells, statements, "");
    }

    private static void statements(int cells, String statements, String members) {
        String text = "class Main { int main() { " + statements + " return 1; } " + members + " } "
            + "class Box { int[] row; Box next; } class Face { Face self() { return this; } "
            + "int two(Object a, Object b) { return 2; } int drop(Object a) { a = null; Object b = R; return 1; } "
            + "void keep(Object a) { Object b = R; } int some() { Object b = R; return 0; } }";
        needs(cells, text.replace("R", "new int[8]"));
    }

    private static void sizes() {
        statements(11, "int[] a = R;");
        statements(13, "int[] a = new int[10];");
        statements(15, "Box[] a = new Box[12];");
        statements(12, "boolean[] a = new boolean[9];");
        statements(3000, "int[] a = new int[2997];");
        statements(14, "Box a = new Box(); int[] b = R;");
        statements(12, "Object a = new Face(); int[] b = R;");
        needs(12, "class A { int a, b, c, d, e; } class B extends A { A f, g, h, i; int[] j; } "
            + Checks.main("B b = new B(); return 1;"));
        // The object of Main is made, too.
        needs(13, "class Main { int a, b, c, d, e, f, g, h, i, j, k, l; int main() { return 1; } }");
    }

    private static void variables() {
        statements(21, "int[] a = R; int[] b = R;");
        // A variable holds what it has until it has something else.
        statements(21, "int[] a = R; a = R;");
        statements(11, "int[] a = R; a = null; a = R;");
        statements(11, "{ int[] a = R; } int[] b = R;");
        statements(11, "for (int i = 0; i < 9; i = i + 1) { int[] a = R; }");
        statements(11, "for (int[] a = R; a == null; ) ; int[] b = R;");
        statements(21, "for (int[] a = R; a != null; a = null) { int[] b = R; }");
        statements(11, "for (int[] a = null; a == null; a = R) { int[] b = R; }");
        statements(11, "if (true) { int[] a = R; } else { } int[] b = R;");
        // A LOCAL is empty whenever it begins.
        statements(11, "for (int i = 0; i < 3; i = i + 1) { int[] a; if (i == 0) a = R; else { int[] b = R; } }");
        statements(11, "int i = 0; while (i < 3) { i = i + 1; int[] a; if (i == 1) { a = R; continue; } int[] b = R; }");
        statements(11, "while (true) { int[] a = R; break; } int[] b = R;");
        statements(11, "int i = 0; while (i < 2 && R != null) { int[] a = R; i = i + 1; }");
        statements(21, "int[] a = R; { int[] b = R; } { int[] b = R; }");
        statements(11, "{ int[] a = R; { int b = 1; } } { { int c = 2; int[] b = R; } }");
        // Of the same slot one variable after the other.
        statements(21, "{ int[] a = R; } { Object a; Object b = R; a = R; }");
    }

    private static void operands() {
        statements(21, "R[0] = R.length;");
        statements(21, "boolean b = R == R;");
        statements(11, "int b = R.length + R.length;");
        statements(11, "int b = R[0] + R[1];");
        statements(11, "boolean b = R is int[] && R != null;");
        statements(21, "boolean b = (R as Object) != R;");
        statements(11, "Object b = R == null ? null : R;");
        statements(11, "if (R != null) { int[] b = R; }");
        statements(14, "new Object[1][0] = R;");
        statements(14, "new Box().row = R;");
        statements(15, "int[] b = new Object[1][new Face().some()] as int[];");
        statements(11, "int[] b = R; b = null; b = new int[R.length];");
        statements(11, "print(R.length); print(R.length);");
        statements(11, "int s = 0; for (int i = 0; i < 9; i = i + 1) s = s + R.length;");
        statements(21, "boolean b = R == new int[R.length];");
        statements(31, "boolean b = R == (R == R ? R : null) == (R == null);");
    }

    private static void calls() {
        statements(12, "int b = new Face().some();");
        statements(22, "new Face().keep(R);");
        statements(22, "int b = new Face().two(R, R);");
        // Arguments are held until the call begins, then as PARAMETERS, as they are.
        statements(12, "int b = new Face().drop(R);");
        statements(12, "int b = new Face().self().drop(R);");
        statements(22, "int b = new Face().two(new Face().drop(R) == 1 ? R : null, R);");
        statements(14, "take(new Box(), R);", "void take(Box b, int[] a) { }");
        statements(12, "Face f = new Face(); f.some(); f.some();");
        // Variables of open calls, and what a call gave.
        statements(31, "down(2);", "void down(int n) { int[] a = R; if (n > 0) down(n - 1); }");
        statements(11, "down(9);", "void down(int n) { { int[] a = R; } if (n > 0) down(n - 1); }");
        statements(11, "give(); give(); int[] a = give();", "int[] give() { return R; }");
        statements(21, "boolean a = give() == give();", "int[] give() { return R; }");
        statements(11, "int s = give().length + give().length;", "int[] give() { return R; }");
        // this is held as long as the call is open.
        statements(24, "new Main().go(); Box b = new Box(); b.row = R; int[] c = R;", "void go() { }");
        statements(22, "int n = 0; Face f = new Face(); f.keep(R); f = null; int[] c = R; Face g = new Face();");
    }

    private static void tries() {
        // Behind a throw the operands are not held any more.
        statements(11, "try { boolean b = R == new int[1 / 0]; } catch (Zero z) { int[] a = R; }");
        statements(11, "try { int[] a = R; print(1 / 0); } catch (Zero z) { int[] b = R; }");
        statements(11, "try { int[] a = R; print(1 / 0); } catch (Zero z) { } finally { int[] b = R; }");
        statements(11, "try { int[] a = R; } finally { int[] b = R; }");
        statements(24, "try { fail(); } catch (Box b) { int[] c = R; }",
            "void fail() { Box b = new Box(); b.row = R; throw b; }");
        statements(14, "try { fail(); } catch (Box b) { } int[] c = R;",
            "void fail() { Box b = new Box(); b.row = R; throw b; }");
        statements(14, "try { fail(); } catch (Box b) { } finally { int[] c = R; }",
            "void fail() { Box b = new Box(); b.row = R; throw b; }");
        statements(14, "try { fail(); } catch (Box b) { b = null; int[] c = R; }",
            "void fail() { Box b = new Box(); b.row = R; throw b; }");
        // On their way while LAST is done: an exception, and return's value.
        statements(24, "try { fail(); } catch (Object o) { }",
            "void fail() { try { Box b = new Box(); b.row = R; throw b; } finally { int[] c = R; } }");
        statements(21, "int[] a = give();", "int[] give() { try { return R; } finally { int[] b = R; } }");
        statements(11, "int a = give();", "int give() { try { return R.length; } finally { int[] b = R; } }");
        statements(21, "int[] a = give();", "int[] give() { try { return R; } finally { return R; } }");
        statements(21, "int[] a = give();",
            "int[] give() { try { try { return R; } finally { return R; } } finally { int[] b = R; } }");
        statements(11, "while (true) { try { int[] a = R; break; } finally { int[] b = R; } }");
        statements(14, "while (true) { try { Box b = new Box(); b.row = R; throw b; } finally { break; } } int[] c = R;");
        // The six exceptions have no cells.
        statements(11, "Object o = null; try { print(1 / 0); } catch (Zero z) { o = z; } int[] a = R;");
        statements(12, "Object o = new Zero(); int[] a = R;");
    }

    private static void graphs() {
        // Two boxes that refer to one another go together.
        statements(14, "for (int i = 0; i < 9; i = i + 1) { Box a = new Box(); a.next = new Box(); a.next.next = a; a.row "
            + "= null; } Box b = new Box(); b.row = R;");
        statements(31, "Box list = null; for (int i = 0; i < 10; i = i + 1) { Box a = new Box(); a.next = list; list = a; }");
        JinjaTongue x = Checks.program("class Node { Node left, right; int key; } class Main { Node root; int[] sums; "
            + "Node grow(int d) { Node n = new Node(); n.key = d; if (d > 0) { n.left = grow(d - 1); n.right = grow(d - 1); "
            + "} return n; } int sum(Node n) { return n == null ? 0 : n.key + sum(n.left) + sum(n.right); } int main() { "
            + "sums = new int[20]; for (int i = 0; i < 20; i = i + 1) { root = null; root = grow(5); sums[i] = sum(root); } "
            + "int s = 0; for (int i = 0; i < 20; i = i + 1) s = s + sums[i]; return s; } }");
        int cells = 3 + 22 + 63 * 4;
        Checks.due("run", Checks.run(x, 20000, cells), 0);
        Checks.due("result", x.result(), 20 * 57);
        Checks.due("count(8)", x.count(8), 2 + 20 * 63);
        Checks.due("count(9)", x.count(9), 3 + 22 + 20 * 63 * 4);
        Checks.due("run", Checks.run(x, 20000, cells - 1), 3);
        Checks.due("run", Checks.run(x, 20000, 3000), 0);
        Checks.due("result", x.result(), 20 * 57);
        // Elements of arrays, and what has two that refer to it.
        statements(29, "Object[] o = new Object[3]; o[0] = R; o[1] = o[0]; o[2] = new Box(); (o[2] as Box).row = R;");
    }

    /** What finds no room is not made. */
    private static void unmade() {
        JinjaTongue x = Checks.program(Checks.main("int[] a = new int[7]; a = new int[2147483647]; return 1;"));
        Checks.due("run", Checks.run(x, 20000, 3000), 3);
        Checks.due("count(8)", x.count(8), 2);
        Checks.due("count(9)", x.count(9), 10);
        Checks.due("count(5)", x.count(5), 20000 - 5);
        JinjaTongue y = Checks.program("class Main { int a, b, c, d, e, f, g, h, i, j; int main() { return 1; } }");
        Checks.due("run", Checks.run(y, 0, 10), 3);
        Checks.due("count(8)", y.count(8), 0);
        Checks.due("count(9)", y.count(9), 0);
        Checks.due("run", Checks.run(y, 0, 11), 2);
        // Nothing catches it.
        JinjaTongue z = Checks.program(Checks.main("try { Object o = new int[3000]; } catch (Object o) { print(1); } finally "
            + "{ print(2); } return 1;"));
        Checks.due("run", Checks.run(z, 20000, 3000), 3);
        Checks.printed(z);
    }
}
