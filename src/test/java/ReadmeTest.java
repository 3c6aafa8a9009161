/** What README.md says: its examples as they stand there, its faults, its ends, and which calls throw. */
public final class ReadmeTest {
    private static final String TWICE = "class Main { int main() { int v = read(); print(v * 2); return v + 1; } }";
    private static final String MAIN = " class Main { int main() { return 0; } }";

    public static void main(String[] args) {
        example();
        faults();
        numbers();
        ends();
        throwing();
        Checks.end();
    }

    // ---- the two functions of README.md

    static void feed(JinjaTongue x, String text) {
        int fed = (text.length() + 19) / 20 * 20;
        for (int at = 0; at < fed; at += 20) {
            x.feed(word(text, at), word(text, at + 4), word(text, at + 8), word(text, at + 12), word(text, at + 16));
        }
        x.back(fed - text.length());
    }

    static int word(String text, int at) {
        int word = 0;
        for (int i = at; i < at + 4; i++) {
            word = word << 8 | (i < text.length() ? text.charAt(i) & 255 : ' ');
        }
        return word;
    }

    private static JinjaTongue program(String text) {
        JinjaTongue x = new JinjaTongue();
        feed(x, text);
        Checks.due("count(0)", x.count(0), text.length());
        Checks.due("read() of " + text, x.read(), 0);
        Checks.due("count(0)", x.count(0), 0);
        return x;
    }

    private static void example() {
        JinjaTongue x = program(TWICE);
        x.input(20);
        Checks.due("run", Checks.run(x, 1000, 50), 0);
        Checks.due("result", x.result(), 21);
        Checks.due("output(0)", x.output(0), 40);
        Checks.due("output(1)", x.output(1), 0);
        Checks.due("thrown(0)", x.thrown(0), JinjaTongue.NONE);
        Checks.due("count(5)", x.count(5), 996);
        int[] counts = {0, 1, 29, 8, 1, 996, 1, 1, 1, 1, 1, 1};
        for (int what = 0; what < counts.length; what++) {
            Checks.due("count(" + what + ")", x.count(what), counts[what]);
        }
        // The INPUT stays for all runs and texts, until forget().
        Checks.due("run", Checks.run(x, 1000, 50), 0);
        Checks.due("result", x.result(), 21);
        feed(x, TWICE);
        Checks.due("read", x.read(), 0);
        Checks.due("result", x.result(), 0);
        Checks.due("run", Checks.run(x, 1000, 50), 0);
        Checks.due("result", x.result(), 21);
        x.forget();
        Checks.due("run", Checks.run(x, 1000, 50), 0);
        Checks.due("result", x.result(), 1);
    }

    /** One text for each row of the table of faults. */
    private static void faults() {
        Checks.fault(1, "class Main { int main() { return 0 @} }");
        Checks.fault(2, "class Main { int main() { return f(); } int f(int a, int b, int c, int d, int e, int g, int h, "
            + "int i, @int j) { return 0; } }");
        Checks.fault(3, "class A { int a, @a; }" + MAIN);
        Checks.fault(4, "class A extends @B { }" + MAIN);
        Checks.fault(5, "interface I { } class A extends @I { }" + MAIN);
        Checks.fault(6, "class @A extends B { } class B extends A { }" + MAIN);
        Checks.fault(7, "class A { void m() { } } class B extends A { int @m() { return 0; } }" + MAIN);
        Checks.fault(8, "interface I { void m(); } class @A implements I { }" + MAIN);
        Checks.fault(9, "class A { int main() { return 0; } }@");
        Checks.fault(10, Checks.main("return @a;"));
        Checks.fault(11, Checks.main("return @true;"));
        Checks.fault(12, Checks.main("return main(@1);"));
        Checks.fault(13, Checks.main("int a; return @a;"));
        Checks.fault(14, Checks.main("@break;"));
        Checks.fault(15, "class Main { int main() { @} }");
    }

    /** The numbers of the classes that are built in, and of the text's first one. */
    private static void numbers() {
        JinjaTongue x = program(MAIN);
        String[] names = {"Object", "Null", "Cast", "Zero", "Index", "Store", "Size", "Main"};
        for (int k = 0; k < names.length; k++) {
            for (int i = 0; i < names[k].length(); i++) {
                Checks.due("letter(" + k + ", " + i + ")", x.letter(k, i), names[k].charAt(i));
            }
            Checks.due("letter behind " + names[k], x.letter(k, names[k].length()), JinjaTongue.NONE);
            Checks.due("above(0, " + k + ")", x.above(0, k), 1);
        }
        Checks.due("letter(8, 0)", x.letter(8, 0), JinjaTongue.NONE);
        Checks.due("called(7, 0)", x.called(7, 0), 0);
    }

    private static void ends() {
        String text = "class E { int a; boolean b; E c; } class Main { int main() { int v = read(); if (v == 1) { E e = new "
            + "E(); e.a = 7; e.b = true; e.c = e; throw e; } while (v == 2) ; if (v == 3) return new int[3000].length; if "
            + "(v == 4) return main() + main(); return 5; } }";
        for (int end = 0; end <= 4; end++) {
            JinjaTongue x = program(text);
            for (int n = 0; n < 200; n++) {
                x.input(end);
            }
            Checks.due("run", Checks.run(x, 20000, 3000), end);
            Checks.due("result", x.result(), end == 0 ? 5 : 0);
            int[] thrown = {7, 3, 7, 1, 1, JinjaTongue.NONE};
            for (int what = 0; what < thrown.length; what++) {
                Checks.due("thrown(" + what + ")", x.thrown(what), end == 1 ? thrown[what] : JinjaTongue.NONE);
            }
            Checks.due("refusals", x.refusals(), 0);
        }
    }

    private static void throwing() {
        JinjaTongue x = new JinjaTongue();
        Checks.due("run without a program", Checks.run(x, 0, 10), 102);
        Checks.due("run with too much fuel, without a program", Checks.run(x, 20001, 10), 101);
        feed(x, TWICE);
        Checks.due("read", x.read(), 0);
        Checks.due("run", Checks.run(x, 20000, 3000), 0);
        int[][] wrong = {{-1, 10}, {20001, 10}, {0, 9}, {0, 3001}};
        for (int[] pair : wrong) {
            Checks.due("run(" + pair[0] + ", " + pair[1] + ")", Checks.run(x, pair[0], pair[1]), 101);
            Checks.due("result behind it", x.result(), 1);
        }
        feed(x, "class");
        Checks.due("read", x.read(), 1 + 16 * 5);
        Checks.due("run behind a fault", Checks.run(x, 0, 10), 102);
        Checks.due("result behind a fault", x.result(), 0);
    }
}
