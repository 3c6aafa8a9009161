/** Promises 11 and 15: FUEL. */
public final class FuelTest {
    public static void main(String[] args) {
        whatItTakes();
        whereItEnds();
        Checks.end();
    }

    /** Ends well with just so much, and not with one less. */
    private static void takes(int fuel, String text) {
        JinjaTongue x = Checks.program(text);
        for (int less = 0; less < fuel; less++) {
            Checks.due("run(" + less + ", 3000) of " + text, Checks.run(x, less, 3000), 2);
            Checks.due("count(5)", x.count(5), 0);
            Checks.due("result", x.result(), 0);
        }
        Checks.due("run(" + fuel + ", 3000) of " + text, Checks.run(x, fuel, 3000), 0);
        Checks.due("count(5)", x.count(5), 0);
        Checks.due("run(20000, 3000) of " + text, Checks.run(x, 20000, 3000), 0);
        Checks.due("count(5) of " + text, x.count(5), 20000 - fuel);
    }

    /** The statements take so much, besides the call of main and the return. */
    private static void statements(int fuel, String statements) {
        statements(fuel, statements, "");
    }

    private static void statements(int fuel, String statements, String methods) {
        takes(fuel + 2, "class Main { int main() { " + statements + " return 1; } " + methods + " }");
    }

    private static void whatItTakes() {
        statements(0, "");
        statements(0, "{ ; { } ; }");
        statements(1, "int x;");
        statements(1, "int x = 1;");
        statements(2, "{ int x; { x = 1; } }");
        statements(1, "print(1);");
        statements(1, "if (true) ;");
        statements(1, "if (true) { }");
        statements(2, "if (true) print(1);");
        statements(2, "if (false) ; else print(1);");
        statements(3, "if (false) ; else if (true) print(1);");
        statements(1, "try { } finally { }");
        statements(4, "try { print(1); throw this; } catch (Main m) { print(2); } finally { }");
        statements(2, "while (false) ;");
        // The statement, each look, each break.
        statements(3, "while (true) break;");
        statements(2, "for (int i = 0; false; i = 1) ;");
        statements(1 + 4, "for (int i = 0; i < 3; i = i + 1) ;");
        statements(1 + 4 + 3, "for (int i = 0; i < 3; i = i + 1) print(i);");
        statements(1 + 4 + 3, "for (int i = 0; i < 3; i = i + 1) continue;");
        statements(3, "for (; ; ) break;");
        // new and calls.
        statements(2, "Object o = new Main();");
        statements(2, "Object o = new int[2];");
        statements(1, "Object o = read() == 1 ? new Main() : null;");
        statements(2, "m();", "void m() { }");
        statements(3, "m();", "void m() { return; }");
        statements(3, "m();", "void m() { ; print(1); }");
        statements(1 + 2 * 3, "print(n(n(2)));", "int n(int a) { print(1); return a; }");
        takes(4, "class A { void n() { } } class Main extends A { int main() { super.n(); return 1; } }");
        // FIRST and NEXT take what their calls take.
        statements(1 + 3 + 3 * 2, "for (int i = n(0); i < 2; i = n(i + 1)) ;", "int n(int a) { return a; }");
        statements(3, "for (; read() == 0; new Main().m()) break;", "void m() { }");
        statements(1 + 3 + 2 * (1 + 2), "for (int i = 0; i < 2; new Main().m()) i = i + 1;", "void m() { }");
    }

    private static void whereItEnds() {
        // Arguments ahead of the call's own, that ahead of Null.
        JinjaTongue x = Checks.program("class Main { Main m; int main() { return m.f(p()); } int p() { print(5); return 1; } "
            + "int f(int a) { return a; } }");
        Checks.due("run(2, 10)", Checks.run(x, 2, 10), 2);
        Checks.printed(x);
        Checks.due("run(5, 10)", Checks.run(x, 5, 10), 2);
        Checks.printed(x, 5);
        Checks.due("run(6, 10)", Checks.run(x, 6, 10), 1);
        Checks.due("count(5)", x.count(5), 0);
        Checks.due("thrown(0)", x.thrown(0), 1);
        Checks.due("count(10)", x.count(10), 2);
        // Of new behind its size, ahead of Size and ROOM.
        JinjaTongue y = Checks.program(Checks.main("return new int[p()].length; } int p() { print(6); return read();"));
        y.input(-1);
        Checks.due("run(5, 10)", Checks.run(y, 5, 10), 2);
        Checks.printed(y, 6);
        Checks.due("run(6, 10)", Checks.run(y, 6, 10), 1);
        Checks.due("thrown(0)", y.thrown(0), 6);
        y.forget();
        y.input(2147483647);
        Checks.due("run(5, 10)", Checks.run(y, 5, 10), 2);
        Checks.due("run(6, 10)", Checks.run(y, 6, 10), 3);
        Checks.due("count(5)", y.count(5), 0);
        // The look at a loop is ahead of its E.
        JinjaTongue z = Checks.program(Checks.main("while (p()) ; return 1; } boolean p() { print(7); return false;"));
        Checks.due("run(2, 10)", Checks.run(z, 2, 10), 2);
        Checks.due("run(3, 10)", Checks.run(z, 3, 10), 2);
        Checks.printed(z);
        Checks.due("run(5, 10)", Checks.run(z, 5, 10), 2);
        Checks.printed(z, 7);
        // Nothing catches it, and no LAST is done.
        JinjaTongue w = Checks.program(Checks.main("try { while (true) ; } catch (Object o) { print(1); } finally { print(2); "
            + "} return 1;"));
        Checks.due("run(20000, 10)", Checks.run(w, 20000, 10), 2);
        Checks.printed(w);
        Checks.due("thrown(0)", w.thrown(0), -1);
    }
}
