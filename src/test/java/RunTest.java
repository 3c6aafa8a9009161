/** Promises 9 to 16: input, forget, run, result, output, thrown, count, refusals, and what values and calls do. */
public final class RunTest {
    public static void main(String[] args) {
        inputs();
        arguments();
        outputs();
        numbers();
        defaults();
        order();
        dispatch();
        depth();
        againAndAgain();
        counts();
        thrownFields();
        Checks.end();
    }

    private static void inputs() {
        JinjaTongue x = Checks.program(Checks.main("int s = 0; for (int i = 0; i < 3; i = i + 1) s = s * 10 + read(); "
            + "return s;"));
        Checks.due("run", Checks.run(x, 100, 10), 0);
        Checks.due("result", x.result(), 0);
        Checks.due("count(7)", x.count(7), 3);
        Checks.due("input(4)", x.input(4), 1);
        Checks.due("input(5)", x.input(5), 2);
        Checks.due("count(1)", x.count(1), 2);
        Checks.due("run", Checks.run(x, 100, 10), 0);
        Checks.due("result", x.result(), 450);
        Checks.due("run from the first number on", Checks.run(x, 100, 10), 0);
        Checks.due("result", x.result(), 450);
        Checks.due("count(7)", x.count(7), 3);
        // They stay, though another text is read.
        Checks.due("read", Checks.read(x, Checks.main("return read();")), 0);
        Checks.due("run", Checks.run(x, 100, 10), 0);
        Checks.due("result", x.result(), 4);
        x.forget();
        Checks.due("count(1)", x.count(1), 0);
        Checks.due("result stays", x.result(), 4);
        Checks.due("run", Checks.run(x, 100, 10), 0);
        Checks.due("result", x.result(), 0);
        for (int i = 1; i <= 200; i++) {
            Checks.due("input", x.input(-i), i);
        }
        Checks.due("input beyond 200", x.input(1), -1);
        Checks.due("count(1)", x.count(1), 200);
        Checks.due("run", Checks.run(x, 100, 10), 0);
        Checks.due("result", x.result(), -1);
        x.forget();
        Checks.due("input", x.input(-2147483648), 1);
        Checks.due("run", Checks.run(x, 100, 10), 0);
        Checks.due("result", x.result(), -2147483648);
    }

    private static void arguments() {
        JinjaTongue x = Checks.program(Checks.main("print(9); return 5;"));
        Checks.due("run", Checks.run(x, 100, 10), 0);
        int[][] wrong = {{-1, 10}, {20001, 10}, {0, 9}, {0, 3001}, {-2147483648, 2147483647}, {2147483647, 10}};
        for (int[] w : wrong) {
            Checks.due("run(" + w[0] + ", " + w[1] + ")", Checks.run(x, w[0], w[1]), 101);
            Checks.due("run of no program", Checks.run(new JinjaTongue(), w[0], w[1]), 101);
            // What throws changes nothing.
            Checks.due("result", x.result(), 5);
            Checks.due("count(5)", x.count(5), 97);
            Checks.printed(x, 9);
        }
        Checks.due("run(0, 10)", Checks.run(x, 0, 10), 2);
        Checks.due("result", x.result(), 0);
        Checks.due("run(20000, 3000)", Checks.run(x, 20000, 3000), 0);
        Checks.due("run(20000, 10)", Checks.run(x, 20000, 10), 0);
        Checks.due("run(3, 10)", Checks.run(x, 3, 10), 0);
        Checks.due("run(2, 10)", Checks.run(x, 2, 10), 2);
        Checks.printed(x, 9);
        Checks.due("run(1, 10)", Checks.run(x, 1, 10), 2);
        Checks.printed(x);
    }

    private static void outputs() {
        JinjaTongue x = Checks.gives(405, Checks.main("int i; for (i = 0; i < 405; i = i + 1) print(i - 3); return i;"));
        Checks.due("count(6)", x.count(6), 400);
        Checks.due("output(0)", x.output(0), -3);
        Checks.due("output(399)", x.output(399), 396);
        Checks.due("output(400)", x.output(400), 0);
        Checks.due("output(-1)", x.output(-1), 0);
        Checks.due("output(2147483647)", x.output(2147483647), 0);
        Checks.due("run", Checks.run(x, 4, 10), 2);
        Checks.printed(x);
        Checks.due("output(0)", x.output(0), 0);
    }

    private static void numbers() {
        Checks.gives(-2147483648, Checks.main("return 2147483647 + 1;"));
        Checks.gives(2147483647, Checks.main("return -2147483647 - 2;"));
        Checks.gives(1, Checks.main("return 65537 * 65537 - 131072;"));
        Checks.gives(-2147483648, Checks.main("return (-2147483647 - 1) / -1;"));
        Checks.gives(0, Checks.main("return (-2147483647 - 1) % -1;"));
        Checks.gives(-3, Checks.main("return -7 / 2;"));
        Checks.gives(-1, Checks.main("return -7 % 2;"));
        Checks.gives(1, Checks.main("return 7 % -2;"));
        Checks.gives(2, Checks.main("return 1 << 33;"));
        Checks.gives(-2147483648, Checks.main("return 1 << -1;"));
        Checks.gives(-1, Checks.main("return -1 >> 40;"));
        Checks.gives(1, Checks.main("return -1 >>> 31;"));
        Checks.gives(-1, Checks.main("return -1 >>> 32;"));
        Checks.gives(-6, Checks.main("return ~5;"));
        Checks.gives(1, Checks.main("return (5 & 6) == 4 && (5 | 6) == 7 && (5 ^ 6) == 3 ? 1 : 0;"));
        Checks.gives(1, Checks.main("return (true ^ true) == false && (true & false | true) != false ? 1 : 0;"));
        Checks.gives(1, Checks.main("return -1 < 0 && 0 <= 0 && 1 > 0 && 0 >= 0 && !(0 < 0) && !(0 > 0) ? 1 : 0;"));
    }

    private static void defaults() {
        Checks.gives(1, "class Main { int a; boolean b; Main c; int[] d; int main() { return a == 0 && !b && c == null && "
            + "d == null && new int[2][1] == 0 && !new boolean[1][0] && new Main[3][2] == null ? 1 : 0; } }");
        Checks.gives(3, "class Main { Main m; int n; int main() { m = new Main(); m.n = 3; n = m.m == null ? m.n : 4; "
            + "return this.n; } }");
    }

    private static void order() {
        String more = " int s(int n) { print(n); return n; } boolean b(int n) { print(n); return n > 5; } "
            + "int three(int a, int b, int c) { return a; } Main self(int n) { print(n); return this; } "
            + "int[] row(int n) { print(n); return new int[9]; } int f; }";
        JinjaTongue x = Checks.gives(5, "class Main { int main() { return s(1) + s(2) * (s(3) - s(1)); }" + more);
        Checks.printed(x, 1, 2, 3, 1);
        x = Checks.gives(2, "class Main { int main() { return b(1) && b(9) ? 1 : 2; }" + more);
        Checks.printed(x, 1);
        x = Checks.gives(1, "class Main { int main() { return b(9) || b(8) ? 1 : 2; }" + more);
        Checks.printed(x, 9);
        x = Checks.gives(0, "class Main { int main() { return b(1) & b(9) | b(2) ^ b(3) ? 1 : 0; }" + more);
        Checks.printed(x, 1, 9, 2, 3);
        x = Checks.gives(2, "class Main { int main() { return self(1).three(s(2), s(3), s(4)); }" + more);
        Checks.printed(x, 1, 2, 3, 4);
        x = Checks.gives(7, "class Main { int main() { self(1).f = s(7); row(2)[s(3)] = s(4); return f; }" + more);
        Checks.printed(x, 1, 7, 2, 3, 4);
        x = Checks.gives(0, "class Main { int main() { return row(1)[s(2)]; }" + more);
        Checks.printed(x, 1, 2);
    }

    private static void dispatch() {
        String classes = "interface I { int m(); } class A implements I { int m() { return 1; } int n() { return m() * 10; "
            + "} } class B extends A { int m() { return 2 + super.m(); } } class C extends B { int n() { return "
            + "super.n() + 5; } } class D extends C { int m() { return super.m() * 2; } } ";
        Checks.gives(1, classes + Checks.main("I i = new A(); return i.m();"));
        Checks.gives(3, classes + Checks.main("I i = new B(); return i.m();"));
        Checks.gives(30, classes + Checks.main("A i = new B(); return i.n();"));
        Checks.gives(35, classes + Checks.main("A i = new C(); return i.n();"));
        // super goes on from the method's class, not from the object's.
        Checks.gives(65, classes + Checks.main("A i = new D(); return i.n();"));
        Checks.gives(6, classes + Checks.main("Object o = new D(); return (o as I).m();"));
        Checks.gives(1, classes + Checks.main("Object o = new D(); return o is A && o is I && !(o is Main) && o is Object "
            + "&& !(null is A) && !(new A() is B) ? 1 : 0;"));
        Checks.gives(1, classes + Checks.main("Object o = new B[1]; return o is A[] && o is I[] && o is Object[] && "
            + "!(o is C[]) && !(o is B) && o is Object && !(o is int[]) && new int[1] is int[] && !(new int[1] is "
            + "Object[]) && !(new int[1] is boolean[]) ? 1 : 0;"));
        Checks.gives(1, classes + Checks.main("A a = new B(); Object o = a; return o == a && (o as B) == a && new A() != "
            + "new A() && (a as I) == o ? 1 : 0;"));
    }

    private static void depth() {
        String text = "class Main { int n; int down(int k) { n = n + 1; return k == 0 ? 0 : down(k - 1) + 1; } "
            + "int main() { return down(read()); } }";
        JinjaTongue x = Checks.program(text);
        x.input(98);
        Checks.due("run", Checks.run(x, 20000, 10), 0);
        Checks.due("result", x.result(), 98);
        Checks.due("count(10)", x.count(10), 100);
        Checks.due("count(11)", x.count(11), 100);
        x.forget();
        x.input(99);
        Checks.due("run", Checks.run(x, 20000, 10), 4);
        Checks.due("result", x.result(), 0);
        Checks.due("thrown(0)", x.thrown(0), -1);
        Checks.due("count(10)", x.count(10), 100);
        Checks.due("count(11)", x.count(11), 100);
        // main 1, its return 1; each of the 99 calls 1 and two statements; the one too deep 1.
        Checks.due("count(5)", x.count(5), 20000 - 2 - 99 * 3 - 1);
        // Nothing catches it, and a LAST is not done.
        JinjaTongue y = Checks.program(Checks.main("try { return main(); } catch (Object o) { print(1); } finally { "
            + "print(2); } return 1;"));
        Checks.due("run", Checks.run(y, 20000, 10), 4);
        Checks.printed(y);
        // Null is ahead of it.
        JinjaTongue z = Checks.program("class Main { Main m; int main() { if (read() == 1) return m.main(); return main(); "
            + "} }");
        for (int i = 0; i < 99; i++) {
            z.input(0);
        }
        z.input(1);
        Checks.due("run", Checks.run(z, 20000, 10), 1);
        Checks.due("thrown(0)", z.thrown(0), 1);
        Checks.due("count(10)", z.count(10), 100);
    }

    /** Nothing of a run, however it ended, is there in the next one. */
    private static void againAndAgain() {
        JinjaTongue x = Checks.program("class Main { Main m; int n; int down(int k) { Main o = new Main(); o.m = this; "
            + "o.n = k; return read() == 1 ? 1 / (k - k) : o.down(k + 1) + o.n; } int main() { return down(0); } }");
        for (int i = 0; i < 40; i++) {
            Checks.due("too deep", Checks.run(x, 20000, 3000), 4);
            Checks.due("count(8)", x.count(8), 100);
            Checks.due("no fuel", Checks.run(x, 150, 3000), 2);
            Checks.due("count(5)", x.count(5), 0);
            Checks.due("no room", Checks.run(x, 20000, 50), 3);
            Checks.due("count(9)", x.count(9), 48);
            x.input(1);
            Checks.due("thrown", Checks.run(x, 20000, 3000), 1);
            Checks.due("thrown(0)", x.thrown(0), 3);
            x.forget();
        }
        Checks.due("refusals", x.refusals(), 0);
    }

    private static void counts() {
        JinjaTongue x = Checks.gives(4, "class A { int a, b; } class Main { A a; int main() { a = new A(); int[] c = new "
            + "int[4]; print(1); print(read()); return c.length; } }");
        Checks.due("count(2)", x.count(2), 57);
        Checks.due("count(3)", x.count(3), 9);
        Checks.due("count(4)", x.count(4), 1);
        Checks.due("count(5)", x.count(5), 20000 - 1 - 5 - 2);
        Checks.due("count(6)", x.count(6), 2);
        Checks.due("count(7)", x.count(7), 1);
        Checks.due("count(8)", x.count(8), 3);
        Checks.due("count(9)", x.count(9), 2 + 3 + 6);
        Checks.due("count(10)", x.count(10), 1);
        Checks.due("count(11)", x.count(11), 1);
        Checks.due("run", Checks.run(x, 0, 10), 2);
        Checks.due("count(8)", x.count(8), 1);
        Checks.due("count(9)", x.count(9), 2);
        Checks.due("count(10)", x.count(10), 0);
        Checks.due("count(11)", x.count(11), 0);
        Checks.due("refusals", x.refusals(), 0);
    }

    private static void thrownFields() {
        JinjaTongue x = Checks.throwsOut(8, "class A { int a; boolean b, c; } class E extends A { E d, e; int[] f; int g; } "
            + "class Main { int main() { E e = new E(); e.a = -1; e.c = true; e.e = e; e.f = new int[0]; e.g = 77; "
            + "throw e; } }");
        int[] due = {8, 7, -1, 0, 1, 0, 1, 1, 77};
        for (int what = 0; what < due.length; what++) {
            Checks.due("thrown(" + what + ")", x.thrown(what), due[what]);
        }
        Checks.due("thrown(9)", x.thrown(9), -1);
        Checks.due("thrown(-1)", x.thrown(-1), -1);
        Checks.due("thrown(-2147483648)", x.thrown(-2147483648), -1);
        Checks.due("thrown(2147483647)", x.thrown(2147483647), -1);
        Checks.due("run", Checks.run(x, 1, 100), 2);
        Checks.due("thrown(0)", x.thrown(0), -1);
        JinjaTongue y = Checks.throwsOut(3, Checks.main("return 1 / 0;"));
        Checks.due("thrown(1)", y.thrown(1), 0);
        Checks.due("thrown(2)", y.thrown(2), -1);
    }
}
