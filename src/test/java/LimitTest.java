/** Promise 4, fault 2: the limits, each kept and broken by one. */
public final class LimitTest {
    public static void main(String[] args) {
        declarations();
        members();
        depth();
        signs();
        wholeTape();
        Checks.end();
    }

    private static String times(int n, String part) {
        return part.repeat(n);
    }

    /** part, with # numbered from 0 on, n times. */
    private static String numbered(int n, String part, String between) {
        StringBuilder all = new StringBuilder();
        for (int i = 0; i < n; i++) {
            all.append(i == 0 ? "" : between).append(part.replace("#", String.valueOf(i)));
        }
        return all.toString();
    }

    private static void declarations() {
        String main = Checks.main("return 1;");
        JinjaTongue x = Checks.program(main + numbered(29, " class A# { }", ""));
        Checks.due("count(3)", x.count(3), 37);
        Checks.due("letter(36, 2)", x.letter(36, 2), '8');
        Checks.fault(2, main + numbered(29, " interface A# { }", "") + " @class B { }");
        Checks.fault(2, main + numbered(29, " interface A# { }", "") + " @interface");
        Checks.fault(1, main + numbered(29, " interface A# { }", "") + " @int");
    }

    private static void members() {
        String end = " class Main { int main() { return 1; } }";
        Checks.fine("class A { " + numbered(20, "int f#; ", "") + numbered(30, "void m#() { } ", "") + "}" + end);
        Checks.fault(2, "class A { " + numbered(20, "int f#; ", "") + "int @g; }");
        Checks.fault(2, "class A { " + numbered(20, "int f#; ", "") + "int @g, h");
        Checks.fault(1, "class A { " + numbered(20, "int f#; ", "") + "int g@)");
        Checks.fault(2, "class A { int " + numbered(20, "f#", ", ") + ", @g)");
        Checks.fault(2, "class A { " + numbered(30, "void m#() { } ", "") + "int @g()");
        Checks.fault(2, "class A { " + numbered(30, "void m#() { } ", "") + "void @g(");
        Checks.fault(1, "class A { " + numbered(30, "void m#() { } ", "") + "void g@)");
        Checks.fault(1, "class A { " + numbered(30, "void m#() { } ", "") + "int g@)");
        Checks.fault(2, "interface A { " + numbered(30, "void m#(); ", "") + "int @g)");
        Checks.fine("class A { void m(" + numbered(8, "int p#", ", ") + ") { } }" + end);
        Checks.fault(2, "class A { void m(" + numbered(8, "int p#", ", ") + ", @int p8) { } }");
        Checks.fault(2, "interface A { void m(" + numbered(8, "int p#", ", ") + ", @B");
        Checks.fault(1, "interface A { void m(" + numbered(8, "int p#", ", ") + ", @5");
    }

    private static void depth() {
        Checks.gives(1, Checks.main(times(19, "{ ") + "return 1; " + times(19, "} ")));
        Checks.fault(2, Checks.main(times(20, "{ ") + "@return 1; " + times(20, "} ")));
        Checks.fault(2, Checks.main(times(20, "{ ") + "@; " + times(20, "} ") + "return 1;"));
        Checks.fault(2, Checks.main(times(20, "{ ") + "@int x; " + times(20, "} ") + "return 1;"));
        Checks.fault(1, Checks.main(times(20, "{ ") + "@) " + times(20, "} ") + "return 1;"));
        Checks.gives(1, Checks.main(times(19, "if (true) ") + "; return 1;"));
        Checks.fault(2, Checks.main(times(20, "if (true) ") + "@; return 1;"));
        Checks.fault(2, Checks.main(times(19, "if (true) ; else ") + "if (true) @; else ; return 1;"));
        Checks.fault(2, Checks.main(times(20, "while (true) ") + "@; return 1;"));
        Checks.fault(2, Checks.main(times(20, "for (; ; ) ") + "@; return 1;"));
        // A try's, a CATCH's and a LAST's BLOCKS are no STATEMENTS themselves.
        Checks.gives(1, Checks.main(times(19, "try { ") + "; " + times(19, "} finally { } ") + "return 1;"));
        Checks.fault(2, Checks.main(times(20, "try { ") + "@; " + times(20, "} finally { } ") + "return 1;"));
        Checks.fault(2, Checks.main(numbered(20, "try { } catch (Zero z#) { ", "") + "@; " + times(20, "} ")));
        Checks.fault(2, Checks.main(times(20, "try { } finally { ") + "@; " + times(20, "} ") + "return 1;"));
        // The parts of E's are within the STATEMENT.
        Checks.gives(1, Checks.main("return " + times(19, "(") + "1" + times(19, ")") + ";"));
        Checks.fault(2, Checks.main("return " + times(19, "(") + "@(1" + times(20, ")") + ";"));
        Checks.gives(-1, Checks.main("return " + times(19, "- ") + "1;"));
        Checks.fault(2, Checks.main("return " + times(19, "- ") + "@~1;"));
        Checks.fault(2, Checks.main("boolean b = " + times(19, "! ") + "@!true;"));
        Checks.fault(2, Checks.main("return " + times(19, "- ") + "read@();"));
        Checks.fault(2, Checks.main("return " + times(19, "- ") + "main@();"));
        Checks.fault(2, Checks.main("return " + times(19, "- ") + "this.main@();"));
        Checks.fault(2, Checks.main("return " + times(19, "- ") + "super.main@();"));
        Checks.fault(1, Checks.main("return " + times(19, "- ") + "super.main@[1];"));
        Checks.fault(2, Checks.main("return " + times(19, "- ") + "new Main@();"));
        Checks.fault(2, Checks.main("return " + times(19, "- ") + "new int@[1].length;"));
        Checks.fault(2, Checks.main("return " + times(19, "- ") + "a@[1];"));
        Checks.fine(Checks.main("Object o = " + times(18, "(") + "this as Main[]" + times(18, ")") + "; return 1;"));
        Checks.gives(20, Checks.main("return " + numbered(19, "false ? # : ", "") + "20;"));
        Checks.fault(2, Checks.main("return " + numbered(19, "false ? # : ", "") + "true @? 1 : 2;"));
        Checks.fault(2, Checks.main("return " + times(19, "true ? ") + "true @? 1"));
        // The condition is not within its ?, nor one bracket within another that is closed.
        Checks.gives(1, Checks.main("return " + times(19, "(") + "true" + times(19, ")") + " ? 1 : 2;"));
        Checks.gives(4, Checks.main("return (1) + (1) + (1) + (((1)));"));
        Checks.fault(2, Checks.main(times(10, "{ ") + "print(" + times(9, "(") + "@(1))"));
        Checks.fault(2, Checks.main(times(19, "{ ") + "@(this).x = 1;"));
        // A LOCAL's TYPE has no bracket that counts; if [ is not followed by ], it is a CHAIN's.
        Checks.fine(Checks.main(times(19, "{ ") + "Main[] m;" + times(19, "} ") + " return 1;"));
        Checks.fault(2, Checks.main(times(19, "{ ") + "Main@[1] = 1;"));
        Checks.fault(2, Checks.main(times(19, "{ ") + "Main@[#"));
    }

    private static void signs() {
        Checks.gives(61, Checks.main("return 1" + times(60, " + 1") + ";"));
        Checks.fault(2, Checks.main("return 1" + times(60, " + 1") + " @- 1;"));
        Checks.fault(2, Checks.main("return 1" + times(60, " + 1") + " @is"));
        Checks.fault(1, Checks.main("return 1" + times(60, " + 1") + " @="));
        Checks.fault(2, Checks.main("return a" + times(60, ".a") + "@.a;"));
        Checks.fault(2, Checks.main("return a" + times(60, "[0]") + "@[0];"));
        Checks.fault(2, Checks.main("a" + times(30, ".a") + " = 1" + times(30, " * 1") + " @&& 1;"));
        Checks.fault(2, Checks.main("Object o = a" + times(60, " as Main") + " @as Main;"));
        Checks.fault(2, Checks.main("int x = 1" + times(60, " + 1") + " @+ 1;"));
        // ? : and what belongs to an OPERAND do not count, nor what belongs to another STATEMENT.
        Checks.gives(31, Checks.main("return false ? 1" + times(30, " + 1") + " : 1" + times(30, " + 1") + ";"));
        Checks.gives(61, Checks.main("int x = super.f()" + times(60, " + 1") + "; return x; } } class Other { int f() "
            + "{ return 1; ").replace("class Main", "class Main extends Other"));
        Checks.gives(60, Checks.main("return new int[0].length" + times(58, " + 1") + " + 2;"));
        Checks.gives(61, Checks.main("if (1" + times(59, " + 1") + " == 60) { return 1" + times(60, " + 1")
            + "; } return 2;"));
        Checks.fault(2, Checks.main("for (int i = 1" + times(20, " + 1") + "; i < 9" + times(19, " + 1") + "; i = 1"
            + times(20, " + 1") + " @+ 1) ; return 1;"));
        Checks.fine(Checks.main("for (int i = 1" + times(20, " + 1") + "; i < 9" + times(19, " + 1") + "; i = 1"
            + times(20, " + 1") + ") i = 1" + times(60, " + 1") + "; return 1;"));
    }

    /** A tape full of tokens: the most code that a text can have, and the deepest calls. */
    private static void wholeTape() {
        StringBuilder text = new StringBuilder("class Main{int a;boolean b;int main(){");
        while (text.length() < 4800) {
            text.append("a=b?b?b?a:a:a:b?a:-a+").append("a+".repeat(50)).append("a;");
        }
        text.append("return a;}}");
        JinjaTongue x = Checks.gives(0, text.toString());
        Checks.due("count(5)", x.count(5) > 0 ? 1 : 0, 1);
        JinjaTongue y = Checks.program("class Main { int n; int f(" + numbered(8, "int p#", ", ") + ") { n = n + 1; "
            + "return 1" + times(17, " + (1") + " + f(1, 2, 3, 4, 5, 6, 7, n)" + times(17, ")")
            + "; } int main() { return f(1, 2, 3, 4, 5, 6, 7, 8); } }");
        Checks.due("run", Checks.run(y, 20000, 3000), 4);
        Checks.due("count(11)", y.count(11), 100);
        Checks.due("refusals", y.refusals(), 0);
    }
}
