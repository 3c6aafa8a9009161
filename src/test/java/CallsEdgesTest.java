/** Promises 1 to 16: every sentence with NONE, 0, "beyond", "if there is none such" or an exception in it. */
public final class CallsEdgesTest {
    private static final int[] FAR = {-2147483648, -2147483647, -1000, -2, -1, 2147483646, 2147483647};
    // 7 I, 8 A, 9 Main, 10 E; methods 0 A.m, 1 Main.main, 2 E.m
    private static final String TEXT = "interface I { int m(); } class A implements I { int a; boolean b; int m() { return 1; } } class "
        + "Main { int x; int main() { x = read(); print(x); print(read()); if (x == 1) throw new E(); if (x == 2) return new int[-1]"
        + ".length; if (x == 3) return main(); if (x == 4) while (true) ; if (x == 5) return new int[2999].length; return x; } } "
        + "class E extends A { A[] c; int m() { return 2; } }";

    public static void main(String[] args) {
        newObject();
        feedAndBack();
        bytesOfFeed();
        readAndFaults();
        types();
        aboves();
        letters();
        calledOnes();
        inputs();
        exceptions();
        results();
        outputs();
        throwns();
        counts();
        manyCalls();
        Checks.end();
    }

    /** Nothing is there: no program, no run, so much on the tape and of the INPUT. */
    private static void nothing(JinjaTongue x, int tape, int input) {
        for (int k : new int[] {0, 1, 6, 7, 8}) {
            for (int what = 0; what <= 5; what++) {
                Checks.due("type(" + k + ", " + what + ")", x.type(k, what), -1);
            }
            Checks.due("above(0, " + k + ")", x.above(0, k), -1);
            Checks.due("above(" + k + ", 0)", x.above(k, 0), -1);
            Checks.due("letter(" + k + ", 0)", x.letter(k, 0), -1);
            Checks.due("called(" + k + ", 0)", x.called(k, 0), -1);
        }
        noRun(x, tape, input);
        for (int what = 2; what <= 4; what++) {
            Checks.due("count(" + what + ")", x.count(what), 0);
        }
        Checks.due("run", Checks.run(x, 0, 10), 102);
        Checks.due("run", Checks.run(x, 20000, 3000), 102);
    }

    private static void noRun(JinjaTongue x, int tape, int input) {
        Checks.due("count(0)", x.count(0), tape);
        Checks.due("count(1)", x.count(1), input);
        for (int what = 5; what <= 11; what++) {
            Checks.due("count(" + what + ") without a run", x.count(what), 0);
        }
        Checks.due("result() without a run", x.result(), 0);
        Checks.due("output(0) without a run", x.output(0), 0);
        for (int what = -1; what <= 3; what++) {
            Checks.due("thrown(" + what + ") without a run", x.thrown(what), -1);
        }
        Checks.due("refusals()", x.refusals(), 0);
    }

    /** "An empty tape, no program, no INPUT." */
    private static void newObject() {
        nothing(new JinjaTongue(), 0, 0);
        JinjaTongue x = new JinjaTongue();
        x.forget();
        Checks.due("back(0)", x.back(0), 0);
        Checks.due("back(1)", x.back(1), -1);
        Checks.due("read()", x.read(), 9);
        nothing(x, 0, 0);
        // One object has nothing of another one.
        JinjaTongue y = Checks.program(TEXT);
        y.input(1);
        nothing(new JinjaTongue(), 0, 0);
        Checks.due("run", Checks.run(y, 100, 100), 1);
        nothing(x, 0, 0);
    }

    /** "NONE, and nothing comes, if it would have more than 5,000"; "NONE, and none go, if it has less, or n is below 0." */
    private static void feedAndBack() {
        JinjaTongue x = new JinjaTongue();
        for (int n = 1; n <= 249; n++) {
            x.feed(0x20202020, 0x20202020, 0x20202020, 0x20202020, 0x20202020);
        }
        Checks.due("count(0)", x.count(0), 4980);
        Checks.due("feed to 5000", x.feed(0x20202020, 0x20202020, 0x20202020, 0x20202020, 0x20202020), 5000);
        for (int gone = 0; gone <= 19; gone++) {
            Checks.due("feed beyond 5000", x.feed(0x23232323, 0x23232323, 0x23232323, 0x23232323, 0x23232323), -1);
            Checks.due("count(0)", x.count(0), 5000 - gone);
            Checks.due("back(1)", x.back(1), 4999 - gone);
        }
        Checks.due("feed to 5000", x.feed(0x20202020, 0x20202020, 0x20202020, 0x20202020, 0x20202020), 5000);
        Checks.due("back(5001)", x.back(5001), -1);
        for (int n : FAR) {
            Checks.due("back(" + n + ")", x.back(n), -1);
        }
        Checks.due("count(0)", x.count(0), 5000);
        // Nothing of what was refused has come.
        Checks.due("read()", x.read(), 9 + 16 * 5000);
        Checks.due("count(0)", x.count(0), 0);
        x.feed(1, 2, 3, 4, 5);
        Checks.due("back(21)", x.back(21), -1);
        Checks.due("back(20)", x.back(20), 0);
        Checks.due("back(1)", x.back(1), -1);
        Checks.due("back(0)", x.back(0), 0);
    }

    /** "Twenty bytes come behind the tape, the highest of each int first". */
    private static void bytesOfFeed() {
        for (int wrong = 0; wrong < 20; wrong++) {
            JinjaTongue x = new JinjaTongue();
            int[] words = {0x20202020, 0x20202020, 0x20202020, 0x20202020, 0x20202020};
            words[wrong / 4] = words[wrong / 4] & ~(255 << 24 - wrong % 4 * 8) | 0xfe << 24 - wrong % 4 * 8;
            x.feed(words[0], words[1], words[2], words[3], words[4]);
            Checks.due("read() with byte " + wrong + " wrong", x.read(), 1 + 16 * wrong);
        }
        JinjaTongue x = new JinjaTongue();
        Checks.feed(x, "class Main{int main(){return 12345678;}}");
        // What goes back is written anew.
        x.back(11);
        Checks.feed(x, "87654321;}}");
        Checks.due("read()", x.read(), 0);
        Checks.due("run", Checks.run(x, 10, 10), 0);
        Checks.due("result", x.result(), 87654321);
    }

    /** "0; or its FAULT and 16 times its place (there is no program then). There was no run of it yet." */
    private static void readAndFaults() {
        JinjaTongue x = Checks.program(TEXT);
        x.input(1);
        Checks.due("run", Checks.run(x, 100, 100), 1);
        Checks.feed(x, "class");
        Checks.due("thrown(0)", x.thrown(0), 10);
        Checks.due("read() of class", x.read(), 1 + 16 * 5);
        nothing(x, 0, 1);
        Checks.due("read() again", Checks.read(x, TEXT), 0);
        noRun(x, 0, 1);
        Checks.due("count(3)", x.count(3), 11);
        Checks.due("run", Checks.run(x, 100, 100), 1);
        Checks.due("read() again", Checks.read(x, TEXT), 0);
        noRun(x, 0, 1);
        // Each kind of fault leaves no program.
        String[] faulty = {"#", "class A { void m(int a, int b, int c, int d, int e, int f, int g, int h, int i) { } }", "class Null { }",
            "class A extends B { }", "class A implements Object { }", "class A extends A { }",
            "class A { void m() { } } class B extends A { int m() { } }", "interface I { void m(); } class A implements I { }", "",
            Checks.main("return x;"), Checks.main("return true;"), Checks.main("return main(1);"), Checks.main("int x; return x;"),
            Checks.main("break;"), Checks.main("")};
        for (int i = 0; i < faulty.length; i++) {
            JinjaTongue y = Checks.program(TEXT);
            Checks.due("run", Checks.run(y, 100, 100), 0);
            Checks.due("fault of " + faulty[i], Checks.read(y, faulty[i]) % 16, i + 1);
            nothing(y, 0, 0);
            Checks.due("read() behind " + faulty[i], Checks.read(y, Checks.main("return 3;")), 0);
            Checks.due("run", Checks.run(y, 100, 100), 0);
            Checks.due("result", y.result(), 3);
            Checks.due("count(3)", y.count(3), 8);
        }
    }

    /** "NONE for another what, or if there is none such"; of Object and interfaces NONE; of interfaces NONE. */
    private static void types() {
        JinjaTongue x = Checks.program(TEXT);
        int[][] due = {{-1, 0, 0, 0, 0, 1}, {0, 0, 0, 0, 1, 1}, {0, 0, 0, 0, 1, 1}, {0, 0, 0, 0, 1, 1}, {0, 0, 0, 0, 1, 1},
            {0, 0, 0, 0, 1, 1}, {0, 0, 0, 0, 1, 1}, {-1, 0, 1, 1, 1, -1}, {0, 2, 1, 0, 2, 3}, {0, 1, 1, 0, 1, 2}, {8, 3, 1, 0, 3, 4}};
        for (int k = -2; k <= 12; k++) {
            boolean there = k >= 0 && k < due.length;
            for (int what = -2; what <= 7; what++) {
                int answer = there && what >= 0 && what <= 5 ? due[k][what] : -1;
                Checks.due("type(" + k + ", " + what + ")", x.type(k, what), answer);
            }
        }
        for (int far : FAR) {
            Checks.due("type(" + far + ", 1)", x.type(far, 1), -1);
            Checks.due("type(8, " + far + ")", x.type(8, far), -1);
        }
    }

    /** "Whether one is above another one, or the same: 1 or 0; NONE if there is none such." */
    private static void aboves() {
        JinjaTongue x = Checks.program(TEXT);
        for (int k = 0; k <= 11; k++) {
            for (int lower = 0; lower <= 11; lower++) {
                boolean above = k == lower || k == 0 || k == 7 && (lower == 8 || lower == 10) || k == 8 && lower == 10;
                int due = k > 10 || lower > 10 ? -1 : above ? 1 : 0;
                Checks.due("above(" + k + ", " + lower + ")", x.above(k, lower), due);
            }
        }
        for (int far : FAR) {
            Checks.due("above(0, " + far + ")", x.above(0, far), -1);
            Checks.due("above(" + far + ", 0)", x.above(far, 0), -1);
            Checks.due("above(" + far + ", " + far + ")", x.above(far, far), -1);
        }
    }

    /** "Character i of the NAME of class or interface k; NONE if there is none such." */
    private static void letters() {
        JinjaTongue x = Checks.program("class Abcdefghijklmn09 { } " + TEXT);
        String[] names = {"Object", "Null", "Cast", "Zero", "Index", "Store", "Size", "Abcdefghijklmn09", "I", "A", "Main", "E"};
        for (int k = 0; k < names.length; k++) {
            for (int i = 0; i < names[k].length(); i++) {
                Checks.due("letter(" + k + ", " + i + ")", x.letter(k, i), names[k].charAt(i));
            }
            Checks.due("letter(" + k + ", its length)", x.letter(k, names[k].length()), -1);
            for (int far : FAR) {
                Checks.due("letter(" + k + ", " + far + ")", x.letter(k, far), -1);
            }
        }
        Checks.due("letter(12, 0)", x.letter(12, 0), -1);
        for (int far : FAR) {
            Checks.due("letter(" + far + ", 0)", x.letter(far, 0), -1);
        }
        // They are of the program, whatever the tape has.
        Checks.feed(x, "class Other { }");
        Checks.due("letter(7, 15)", x.letter(7, 15), '9');
    }

    /** "NONE if k is no class, has none of that NAME, or there is no method m." */
    private static void calledOnes() {
        JinjaTongue x = Checks.program(TEXT);
        for (int k = -1; k <= 12; k++) {
            for (int m = -1; m <= 4; m++) {
                boolean isOfA = m == 0 || m == 2;
                int due = k == 8 && isOfA ? 0 : k == 10 && isOfA ? 2 : k == 9 && m == 1 ? 1 : -1;
                Checks.due("called(" + k + ", " + m + ")", x.called(k, m), due);
            }
        }
        for (int far : FAR) {
            Checks.due("called(8, " + far + ")", x.called(8, far), -1);
            Checks.due("called(" + far + ", 0)", x.called(far, 0), -1);
        }
        // A told method has no number; one from above is had.
        JinjaTongue y = Checks.program("class C extends B { } class B extends A implements I { } interface I { void n(); void m(); } class A "
            + "{ void m() { } void n() { } } " + Checks.main("return 1;"));
        int[][] due = {{0, 1, -1}, {0, 1, -1}, {-1, -1, -1}, {0, 1, -1}, {-1, -1, 2}};
        for (int k = 7; k <= 11; k++) {
            for (int m = 0; m <= 2; m++) {
                Checks.due("called(" + k + ", " + m + ")", y.called(k, m), due[k - 7][m]);
            }
            Checks.due("called(" + k + ", 3)", y.called(k, 3), -1);
        }
    }

    /** "NONE, and it does not come, beyond 200. (They stay till forget().)" */
    private static void inputs() {
        JinjaTongue x = new JinjaTongue();
        for (int i = 1; i <= 200; i++) {
            Checks.due("input", x.input(i), i);
        }
        for (int i = 0; i < 3; i++) {
            Checks.due("input beyond 200", x.input(-7), -1);
            Checks.due("count(1)", x.count(1), 200);
        }
        Checks.due("read()", Checks.read(x, Checks.main("int s = 0; for (int i = 0; i < 201; i = i + 1) s = s + read(); return s;")), 0);
        Checks.due("count(1)", x.count(1), 200);
        Checks.due("run", Checks.run(x, 20000, 10), 0);
        Checks.due("result", x.result(), 201 * 100);
        Checks.due("run", Checks.run(x, 20000, 10), 0);
        Checks.due("result", x.result(), 201 * 100);
        x.forget();
        Checks.due("count(1)", x.count(1), 0);
        Checks.due("result", x.result(), 201 * 100);
        x.forget();
        Checks.due("input", x.input(9), 1);
        Checks.due("run", Checks.run(x, 20000, 10), 0);
        Checks.due("result", x.result(), 9);
        // In a run they are as they were when it began: later ones are for the next one.
        Checks.due("input", x.input(10), 2);
        Checks.due("result", x.result(), 9);
        Checks.due("count(7)", x.count(7), 201);
        Checks.due("run", Checks.run(x, 20000, 10), 0);
        Checks.due("result", x.result(), 19);
    }

    /** "IllegalArgumentException: fuel is not 0 .. 20000, or cells not 10 .. 3000. IllegalStateException: there is no program." */
    private static void exceptions() {
        int[] fuels = {-2147483648, -1, 0, 20000, 20001, 2147483647};
        int[] cells = {-2147483648, -1, 0, 9, 10, 3000, 3001, 2147483647};
        JinjaTongue none = new JinjaTongue();
        for (int fuel : fuels) {
            JinjaTongue x = Checks.program(TEXT);
            x.input(1);
            x.input(-5);
            Checks.feed(x, "tape");
            for (int c : cells) {
                boolean right = fuel >= 0 && fuel <= 20000 && c >= 10 && c <= 3000;
                // The one that the call names first.
                Checks.due("run(" + fuel + ", " + c + ") without a program", Checks.run(none, fuel, c), right ? 102 : 101);
                Checks.due("run", Checks.run(x, 100, 100), 1);
                int end = Checks.run(x, fuel, c);
                Checks.due("run(" + fuel + ", " + c + ")", end, right ? fuel == 0 ? 2 : 1 : 101);
                if (!right) {
                    unchanged(x);
                }
            }
        }
        JinjaTongue y = Checks.program(TEXT);
        Checks.due("read() of a fault", Checks.read(y, "#"), 1);
        Checks.due("run", Checks.run(y, 100, 100), 102);
        nothing(y, 0, 0);
    }

    /** "What throws changes nothing." */
    private static void unchanged(JinjaTongue x) {
        // FUEL: the call of main, five STATEMENTS, a new.
        int[] counts = {4, 2, 149, 11, 3, 100 - 7, 2, 2, 2, 6, 1, 1};
        for (int what = 0; what < counts.length; what++) {
            Checks.due("count(" + what + ") as it was", x.count(what), counts[what]);
        }
        Checks.due("thrown(0) as it was", x.thrown(0), 10);
        Checks.due("output(1) as it was", x.output(1), -5);
    }

    private static JinjaTongue ran(int end, int first) {
        JinjaTongue x = Checks.program(TEXT);
        x.input(first);
        x.input(first == 3 ? 3 : 50);
        for (int i = 0; first == 3 && i < 198; i++) {
            x.input(3);
        }
        Checks.due("run", Checks.run(x, 20000, 3000), end);
        return x;
    }

    /** "What main gave in the latest run; 0 if that did not end so, or there was none." */
    private static void results() {
        int[] ends = {0, 1, 1, 4, 2, 3, 0};
        for (int first = 0; first < ends.length; first++) {
            JinjaTongue x = ran(ends[first], first);
            Checks.due("result()", x.result(), ends[first] == 0 ? first : 0);
        }
        for (int last = 1; last <= 5; last++) {
            // A run that ended well, then one that did not.
            JinjaTongue x = ran(0, 77);
            Checks.due("result()", x.result(), 77);
            x.forget();
            x.input(last);
            for (int i = 0; last == 3 && i < 199; i++) {
                x.input(3);
            }
            Checks.due("run", Checks.run(x, 20000, 3000), ends[last]);
            Checks.due("result()", x.result(), 0);
        }
        for (int value : new int[] {0, 6, -1, 2147483647, -2147483648}) {
            Checks.due("result()", ran(0, value).result(), value);
        }
    }

    /** "Number i of the latest run's OUTPUT; 0 if there is none such." */
    private static void outputs() {
        JinjaTongue x = ran(0, 7);
        Checks.printed(x, 7, 50);
        Checks.due("output(2)", x.output(2), 0);
        for (int far : FAR) {
            Checks.due("output(" + far + ")", x.output(far), 0);
        }
        // Of the latest run alone.
        Checks.due("run", Checks.run(x, 3, 10), 2);
        Checks.printed(x, 7);
        Checks.due("output(1)", x.output(1), 0);
        Checks.due("run", Checks.run(x, 0, 10), 2);
        Checks.due("output(0)", x.output(0), 0);
        // However it ended.
        Checks.printed(ran(1, 1), 1, 50);
        Checks.printed(ran(2, 4), 4, 50);
        Checks.printed(ran(3, 5), 5, 50);
    }

    /** "NONE without one, or for another what." */
    private static void throwns() {
        JinjaTongue x = ran(1, 1);
        int[] due = {10, 3, 0, 0, 0};
        for (int what = -2; what <= 7; what++) {
            Checks.due("thrown(" + what + ")", x.thrown(what), what >= 0 && what < due.length ? due[what] : -1);
        }
        for (int far : FAR) {
            Checks.due("thrown(" + far + ")", x.thrown(far), -1);
        }
        JinjaTongue y = ran(1, 2);
        Checks.due("thrown(0)", y.thrown(0), 6);
        Checks.due("thrown(1)", y.thrown(1), 0);
        Checks.due("thrown(2)", y.thrown(2), -1);
        for (int first : new int[] {0, 3, 4, 5}) {
            JinjaTongue z = ran(new int[] {0, 1, 1, 4, 2, 3}[first], first);
            for (int what = -1; what <= 3; what++) {
                Checks.due("thrown(" + what + ") without one", z.thrown(what), -1);
            }
        }
        // It is of the latest run, and stays though there is INPUT and tape more.
        x.forget();
        x.input(3);
        Checks.feed(x, "text");
        Checks.due("thrown(0)", x.thrown(0), 10);
        Checks.due("run", Checks.run(x, 0, 10), 2);
        Checks.due("thrown(0)", x.thrown(0), -1);
        // Twenty fields of two classes each, from above downwards.
        StringBuilder first = new StringBuilder();
        StringBuilder second = new StringBuilder();
        StringBuilder set = new StringBuilder();
        for (int i = 0; i < 20; i++) {
            first.append("int f").append(i).append("; ");
            second.append("int g").append(i).append("; ");
            set.append("e.f").append(i).append(" = ").append(100 + i).append("; e.g").append(i).append(" = ").append(200 + i).append("; ");
        }
        JinjaTongue z = Checks.throwsOut(7, "class Low extends Up { " + second + "} class Up { " + first + "} "
            + Checks.main("Low e = new Low(); " + set + "throw e;"));
        Checks.due("thrown(1)", z.thrown(1), 40);
        for (int i = 0; i < 20; i++) {
            Checks.due("thrown(" + (2 + i) + ")", z.thrown(2 + i), 100 + i);
            Checks.due("thrown(" + (22 + i) + ")", z.thrown(22 + i), 200 + i);
        }
        Checks.due("thrown(42)", z.thrown(42), -1);
        JinjaTongue w = Checks.throwsOut(7, "class E { boolean a, b; Object c, d, e; int f; } " + Checks.main("E e = new E(); e.b = true; "
            + "e.c = e; e.e = new int[0]; e.f = -1; throw e;"));
        int[] fields = {7, 6, 0, 1, 1, 0, 1, -1};
        for (int what = 0; what < fields.length; what++) {
            Checks.due("thrown(" + what + ")", w.thrown(what), fields[what]);
        }
        // One of the six that refers to nothing of a field.
        JinjaTongue v = Checks.throwsOut(7, "class E { Object a; } " + Checks.main("E e = new E(); try { print(1 / 0); } catch (Zero z) { "
            + "e.a = z; } throw e;"));
        Checks.due("thrown(2)", v.thrown(2), 1);
    }

    /** "2 to 4 are 0 without a program, 5 to 11 without a run. NONE for another what." */
    private static void counts() {
        JinjaTongue x = Checks.program(TEXT);
        for (int what : FAR) {
            Checks.due("count(" + what + ")", x.count(what), -1);
        }
        Checks.due("count(12)", x.count(12), -1);
        Checks.due("count(13)", x.count(13), -1);
        Checks.due("count(3)", x.count(3), 11);
        Checks.due("count(4)", x.count(4), 3);
        noRun(x, 0, 0);
        Checks.due("read()", Checks.read(x, "class A { } x"), 1 + 16 * 12);
        Checks.due("count(2) without a program", x.count(2), 0);
        // Tokens: notes and blanks are none, signs of two and three are one.
        Checks.due("read()", Checks.read(x, "class Main { // a b c\n int main() { return 1>>>2>>3<<4; } } //"), 0);
        Checks.due("count(2)", x.count(2), 19);
        // FUEL that it left, also where it did not end well.
        Checks.due("run", Checks.run(x, 7, 10), 0);
        Checks.due("count(5)", x.count(5), 5);
        int[][] due = {{0, 2, 2, 1, 2, 1, 1}, {1, 2, 2, 2, 6, 1, 1}, {1, 2, 2, 1, 2, 1, 1}, {4, 200, 200, 1, 2, 100, 100},
            {2, 2, 2, 1, 2, 1, 1}, {3, 2, 2, 1, 2, 1, 1}};
        for (int first = 0; first < due.length; first++) {
            JinjaTongue y = ran(due[first][0], first);
            for (int what = 6; what <= 11; what++) {
                Checks.due("count(" + what + ") of " + first, y.count(what), due[first][what - 5]);
            }
        }
    }

    /** "An object is used for at most 512 calls after it has been made": all of them answer rightly. */
    private static void manyCalls() {
        JinjaTongue x = new JinjaTongue();
        String text = Checks.main("int s = 0; for (int i = 0; i < 20; i = i + 1) s = s + read(); return s;");
        byte[] bytes = (text + " ".repeat(4000 - text.length())).getBytes(java.nio.charset.StandardCharsets.ISO_8859_1);
        int calls = 0;
        for (int at = 0; at < bytes.length; at += 20) {
            int[] words = new int[5];
            for (int i = 0; i < 20; i++) {
                words[i / 4] = words[i / 4] << 8 | bytes[at + i] & 255;
            }
            Checks.due("feed", x.feed(words[0], words[1], words[2], words[3], words[4]), at + 20);
            calls++;
        }
        Checks.due("read()", x.read(), 0);
        calls++;
        int sum = 0;
        int inputs = 0;
        while (calls < 510) {
            if (inputs == 20) {
                x.forget();
                inputs = 0;
                sum = 0;
            } else {
                x.input(calls);
                inputs++;
                sum += calls;
            }
            Checks.due("run " + calls, Checks.run(x, 20000, 3000), 0);
            Checks.due("result " + calls, x.result(), sum);
            calls += 3;
        }
        Checks.due("count(7)", x.count(7), 20);
        Checks.due("refusals()", x.refusals(), 0);
        Checks.due("calls", calls + 2 <= 512 ? 1 : 0, 1);
    }
}
