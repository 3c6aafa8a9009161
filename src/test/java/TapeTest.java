/** Promises 1 to 4: a new object, feed, back, read. */
public final class TapeTest {
    public static void main(String[] args) {
        newObject();
        feedAndBack();
        order();
        readTakesAll();
        readOften();
        Checks.end();
    }

    private static void newObject() {
        JinjaTongue x = new JinjaTongue();
        for (int what = 0; what <= 11; what++) {
            Checks.due("count(" + what + ") of a new object", x.count(what), 0);
        }
        Checks.due("count(-1)", x.count(-1), JinjaTongue.NONE);
        Checks.due("count(12)", x.count(12), JinjaTongue.NONE);
        Checks.due("NONE", JinjaTongue.NONE, -1);
        Checks.due("type(0, 0)", x.type(0, 0), -1);
        Checks.due("above(0, 0)", x.above(0, 0), -1);
        Checks.due("letter(0, 0)", x.letter(0, 0), -1);
        Checks.due("called(0, 0)", x.called(0, 0), -1);
        Checks.due("result()", x.result(), 0);
        Checks.due("output(0)", x.output(0), 0);
        Checks.due("thrown(0)", x.thrown(0), -1);
        Checks.due("refusals()", x.refusals(), 0);
        Checks.due("run(1, 10)", Checks.run(x, 1, 10), 102);
    }

    private static void feedAndBack() {
        JinjaTongue x = new JinjaTongue();
        for (int n = 1; n <= 250; n++) {
            Checks.due("feed " + n, x.feed(n, 0, 0, 0, 0), 20L * n);
        }
        Checks.due("feed beyond 5000", x.feed(1, 2, 3, 4, 5), -1);
        Checks.due("count(0)", x.count(0), 5000);
        Checks.due("back(-1)", x.back(-1), -1);
        Checks.due("back(5001)", x.back(5001), -1);
        Checks.due("back(0)", x.back(0), 5000);
        Checks.due("back(19)", x.back(19), 4981);
        Checks.due("feed beyond 5000", x.feed(1, 2, 3, 4, 5), -1);
        Checks.due("back(1)", x.back(1), 4980);
        Checks.due("feed", x.feed(1, 2, 3, 4, 5), 5000);
        Checks.due("back(5000)", x.back(5000), 0);
        Checks.due("back(1)", x.back(1), -1);
        Checks.due("back(-2147483648)", x.back(-2147483648), -1);
        Checks.due("back(2147483647)", x.back(2147483647), -1);
        Checks.due("back(0)", x.back(0), 0);
    }

    private static void order() {
        // "class" ahead of "Main", byte by byte; a wrong order is a fault at 0.
        JinjaTongue x = new JinjaTongue();
        x.feed(0x636c6173, 0x73204d61, 0x696e7b69, 0x6e74206d, 0x61696e28);
        x.feed(0x297b7265, 0x7475726e, 0x20373b7d, 0x7d202020, 0x20202020);
        Checks.due("count(0)", x.count(0), 40);
        Checks.due("read()", x.read(), 0);
        Checks.due("count(0)", x.count(0), 0);
        Checks.due("run", Checks.run(x, 10, 10), 0);
        Checks.due("result", x.result(), 7);
        // What has gone back is not read: the place of fault 9 is the length.
        x.feed(0x20202020, 0x20202020, 0x20202020, 0x20202020, 0x20202023);
        x.back(1);
        Checks.due("read() of 19 blanks", x.read(), 9 + 16 * 19);
    }

    private static void readOften() {
        JinjaTongue x = new JinjaTongue();
        StringBuilder long1 = new StringBuilder("int n = 0; ");
        while (long1.length() < 1900) {
            long1.append("try { n = n + 1; } finally { n = n + 1; } ");
        }
        int tries = (long1.length() - 11) / 42;
        for (int i = 0; i < 4; i++) {
            Checks.due("read() again", Checks.read(x, Checks.main(long1 + "return n;")), 0);
            Checks.due("run", Checks.run(x, 20000, 10), 0);
            Checks.due("result", x.result(), 2L * tries);
        }
        JinjaTongue y = new JinjaTongue();
        for (int i = 0; i < 50; i++) {
            Checks.due("read() again", Checks.read(y, Checks.main("return " + i + ";")), 0);
            Checks.due("run", Checks.run(y, 20000, 10), 0);
            Checks.due("result", y.result(), i);
        }
        Checks.due("refusals", x.refusals() + y.refusals(), 0);
    }

    private static void readTakesAll() {
        JinjaTongue x = Checks.program(Checks.main("print(3); return 5;"));
        Checks.due("count(2)", x.count(2), 18);
        Checks.due("count(3)", x.count(3), 8);
        Checks.due("count(4)", x.count(4), 1);
        Checks.due("run", Checks.run(x, 100, 10), 0);
        Checks.due("result", x.result(), 5);
        // The tape, but no program, comes behind what is read.
        Checks.feed(x, "class");
        Checks.due("count(0)", x.count(0), 5);
        Checks.due("letter(7, 0)", x.letter(7, 0), 'M');
        Checks.due("result", x.result(), 5);
        Checks.due("read() of class", x.read(), 1 + 16 * 5);
        Checks.due("count(0)", x.count(0), 0);
        for (int what = 2; what <= 11; what++) {
            Checks.due("count(" + what + ") without a program", x.count(what), 0);
        }
        Checks.due("result without a run", x.result(), 0);
        Checks.due("output without a run", x.output(0), 0);
        Checks.due("type without a program", x.type(0, 1), -1);
        Checks.due("run without a program", Checks.run(x, 100, 10), 102);
        // A new program has had no run.
        Checks.due("read()", Checks.read(x, Checks.main("throw new Zero();")), 0);
        Checks.due("run", Checks.run(x, 100, 10), 1);
        Checks.due("thrown", x.thrown(0), 3);
        Checks.due("read()", Checks.read(x, Checks.main("return 1;")), 0);
        Checks.due("thrown without a run", x.thrown(0), -1);
        Checks.due("count(5) without a run", x.count(5), 0);
        Checks.due("read() of nothing", x.read(), 9);
        Checks.due("run without a program", Checks.run(x, 100, 10), 102);
    }
}
