/** Chapter 1, fault 2: each limit with the last one that is allowed and the first one that is not, of every kind. */
public final class LimitEdgesTest {
    private static final String MAIN = " class Main { int main() { return 1; } }";
    private static final String[] BETWEEN = {"+", "-", "*", "/", "%", "<<", ">>", ">>>", "&", "|", "^"};

    public static void main(String[] args) {
        declarations();
        fields();
        methods();
        parameters();
        statements();
        nestedStatements();
        brackets();
        notWithin();
        mixedDepth();
        signs();
        truthSigns();
        chains();
        ownSigns();
        leastFault();
        Checks.end();
    }

    /** part, with # numbered from 0 on, n times. */
    private static String numbered(int n, String part, String between) {
        StringBuilder all = new StringBuilder();
        for (int i = 0; i < n; i++) {
            all.append(i == 0 ? "" : between).append(part.replace("#", String.valueOf(i)));
        }
        return all.toString();
    }

    /** "it begins the 31st DECL". */
    private static void declarations() {
        for (int interfaces = 0; interfaces <= 29; interfaces += 29) {
            String others = numbered(interfaces, "interface I# { } ", "") + numbered(29 - interfaces, "class C# { } ", "");
            JinjaTongue x = Checks.program(others + MAIN);
            Checks.due("count(3)", x.count(3), 37);
            Checks.due("letter(36, 0)", x.letter(36, 0), 'M');
            Checks.due("type(36, 3)", x.type(36, 3), 0);
            Checks.due("type(37, 3)", x.type(37, 3), -1);
            Checks.fault(2, others + MAIN + " @class X { }");
            Checks.fault(2, others + MAIN + " @interface X { }");
            Checks.fault(2, others + MAIN + " @class #");
            Checks.fault(1, others + MAIN + " @extends");
        }
    }

    /** "the 21st field .. of one (at its NAME; a first field's is one with , or ; behind it". */
    private static void fields() {
        JinjaTongue x = Checks.program("class A { int " + numbered(20, "f#", ", ") + "; }" + MAIN);
        Checks.due("type(7, 1)", x.type(7, 1), 20);
        x = Checks.program("class A { " + numbered(20, "int f#; ", "") + "}" + MAIN);
        Checks.due("type(7, 1)", x.type(7, 1), 20);
        Checks.fault(2, "class A { int " + numbered(20, "f#", ", ") + ", @g; }" + MAIN);
        Checks.fault(2, "class A { int " + numbered(20, "f#", ", ") + "; Main @g; }" + MAIN);
        Checks.fault(2, "class A { int " + numbered(20, "f#", ", ") + "; Main[] @g, h; }" + MAIN);
        Checks.fault(2, "class A { " + numbered(19, "int f#; ", "") + "int g, @h; }" + MAIN);
        // Each class has its own, methods between them or not; what is from above does not count.
        x = Checks.program("class A { " + numbered(10, "int a#; void m#() { } int b#; ", "") + "} class B extends A { int "
            + numbered(20, "c#", ", ") + "; }" + MAIN);
        Checks.due("type(8, 1)", x.type(8, 1), 40);
        Checks.due("type(8, 5)", x.type(8, 5), 41);
        Checks.due("type(8, 2)", x.type(8, 2), 10);
        // Of one more NAME what is behind it tells whether it is a field's.
        String full = "class A { int " + numbered(20, "f#", ", ") + "; ";
        Checks.fine(full + "int g() { return 1; } }" + MAIN);
        Checks.fault(1, full + "int g@= 1; }" + MAIN);
        Checks.fault(1, full + "int g @#");
        Checks.fault(1, full + "int g@");
        Checks.fault(1, full + "void g@; }" + MAIN);
        Checks.fault(2, full + "int @g;");
        Checks.fault(2, full + "int @g, #");
        // Behind a comma it is one, whatever follows.
        Checks.fault(2, "class A { int " + numbered(20, "f#", ", ") + ", @g(");
        Checks.fault(2, "class A { int " + numbered(20, "f#", ", ") + ", @g #");
        Checks.fault(1, "class A { int " + numbered(20, "f#", ", ") + ", @;");
    }

    /** "31st method of one (at its NAME; .. a class's method one with ( )". */
    private static void methods() {
        JinjaTongue x = Checks.program("class A { " + numbered(30, "void m#() { } ", "") + "}" + MAIN);
        Checks.due("type(7, 2)", x.type(7, 2), 30);
        Checks.due("count(4)", x.count(4), 31);
        x = Checks.program("interface A { " + numbered(30, "void m#(); ", "") + "}" + MAIN);
        Checks.due("type(7, 2)", x.type(7, 2), 30);
        Checks.due("count(4)", x.count(4), 1);
        String full = "class A { " + numbered(30, "void m#() { } ", "");
        Checks.fine(full + "int g; }" + MAIN);
        Checks.fault(2, full + "void @g() { } }" + MAIN);
        Checks.fault(2, full + "int[] @g() { } }" + MAIN);
        Checks.fault(2, full + "A @g(#");
        Checks.fault(1, full + "A g@#");
        Checks.fault(1, full + "void g@;");
        // A told one is a method at its NAME.
        Checks.fault(2, "interface A { " + numbered(30, "void m#(); ", "") + "void @g(); }" + MAIN);
        Checks.fault(2, "interface A { " + numbered(30, "void m#(); ", "") + "A @g#");
        Checks.fault(1, "interface A { " + numbered(30, "void m#(); ", "") + "A @#");
        // Each has its own.
        x = Checks.program("class A { " + numbered(30, "void a#() { } ", "") + "} class B extends A { "
            + numbered(30, "void b#() { } ", "") + "}" + MAIN);
        Checks.due("type(8, 2)", x.type(8, 2), 60);
        x = Checks.program("interface A { " + numbered(30, "void a#(); ", "") + "} interface B extends A { "
            + numbered(30, "void b#(); ", "") + "}" + MAIN);
        Checks.due("type(8, 2)", x.type(8, 2), 60);
    }

    /** "9th PARAMETER (at its TYPE)". */
    private static void parameters() {
        String eight = numbered(8, "int p#", ", ");
        Checks.fine("class A { void m(" + eight + ") { } } interface I { void m(" + eight + "); }" + MAIN);
        for (String type : new String[] {"int", "boolean", "A", "int[]", "A[]", "Unknown"}) {
            Checks.fault(2, "class A { void m(" + eight + ", @" + type + " p) { } }" + MAIN);
            Checks.fault(2, "interface A { void m(" + eight + ", @" + type + " p); }" + MAIN);
        }
        Checks.fault(1, "class A { void m(" + eight + ", @) { } }" + MAIN);
        Checks.fault(1, "class A { void m(" + eight + ", @void p) { } }" + MAIN);
        Checks.fault(1, "class A { void m(" + eight + "@; }" + MAIN);
        // Of arguments there is no limit of the text, but the method has no ninth PARAMETER.
        Checks.fault(12, "class Main { int main() { return m(1, 2, 3, 4, 5, 6, 7, 8, @9); } int m(" + eight
            + ") { return 1; } }");
    }

    /** The text with the statement behind so many BLOCKS that are STATEMENTS, in a loop that is the first one. */
    private static String within(int others, String statement) {
        return "class Main { int f; int[] g; int m() { return 1; } int main() { while (true) " + "{ ".repeat(others - 1)
            + statement + " }".repeat(others - 1) + " return 1; } }";
    }

    /** "the 21st of these within one another: STATEMENTS (LOCALS, too) (at their first token)". */
    private static void statements() {
        String[] kinds = {"{ }", "f = 1;", "return 1;", "break;", "continue;", "throw this;", "try { } finally { }",
            "try { } catch (Zero z) { } catch (Null n) { }", "print(1);", ";", "int x;", "int x = 1;", "Main x;",
            "Main[] x = null;", "boolean[] x;", "this.f = 1;"};
        for (String kind : kinds) {
            Checks.fine(within(19, kind));
            Checks.fault(2, within(20, "@" + kind));
        }
        // What has no room for one more within it.
        Checks.fine(within(18, "m(); return 1;"));
        Checks.fault(2, within(19, "m@(); return 1;"));
        Checks.fault(2, within(20, "@m(); return 1;"));
        Checks.fine(within(18, "g[0] = 1; return 1;"));
        Checks.fault(2, within(19, "g@[0] = 1; return 1;"));
        Checks.fault(2, within(20, "@g[0] = 1; return 1;"));
        Checks.fine(within(18, "if (true) return 1;"));
        Checks.fault(2, within(19, "if (true) @return 1;"));
        Checks.fault(2, within(19, "if (true) @{ }"));
        Checks.fault(2, within(20, "@if (true) return 1;"));
        Checks.fine(within(18, "while (true) ;"));
        Checks.fault(2, within(19, "while (true) @;"));
        Checks.fine(within(18, "for (int i = 0; i < 1; i = i + 1) ; return 1;"));
        Checks.fault(2, within(19, "for (int i = 0; i < 1; i = i + 1) @;"));
        Checks.fault(2, within(20, "@for (int i = 0; i < 1; i = i + 1) ;"));
        Checks.fine(within(18, "try { print(1); } catch (Zero z) { print(1); } finally { print(1); } return 1;"));
        Checks.fault(2, within(19, "try { @print(1); } finally { } return 1;"));
        Checks.fault(2, within(19, "try { } catch (Zero z) { @print(1); } return 1;"));
        Checks.fault(2, within(19, "try { } finally { @print(1); } return 1;"));
    }

    private static void nestedStatements() {
        String[] kinds = {"if (true) ", "while (true) ", "for (; ; ) "};
        for (String kind : kinds) {
            Checks.fine(Checks.main(kind.repeat(19) + "; return 1;"));
            Checks.fault(2, Checks.main(kind.repeat(20) + "@; return 1;"));
            // One behind another one is not within it.
            Checks.fine(Checks.main((kind.repeat(19) + "; ").repeat(3) + "return 1;"));
        }
        Checks.fine(Checks.main("if (true) ; else ".repeat(19) + "; return 1;"));
        Checks.fault(2, Checks.main("if (true) ; else ".repeat(19) + "if (true) @; else ; return 1;"));
        Checks.fine(Checks.main("{ } ".repeat(100) + "int y; return 1;"));
        // The BLOCKS of methods are no STATEMENTS.
        Checks.gives(1, Checks.main("{ ".repeat(19) + "return 1; " + "} ".repeat(19)));
    }

    /** "( and [ in E's and CHAINS (of calls, new, read, too; not those of TYPES), - ~ ! ahead, ? (at them)". */
    private static void brackets() {
        String head = "class A { int s() { return 1; } } class Main extends A { int[] g; int m(int a) { return a; } int z() "
            + "{ return 1; } int main() { g = new int[3]; return ";
        // The 20th, behind return and eighteen signs ahead, and the 21st, behind one more of them.
        String[] forms = {"%(1)", "m%(1)", "this.m%(1)", "z%()", "this.z%()", "super.s%()", "new Main%().z()", "read%()",
            "new int%[3].length", "g%[0]", "this.g%[0]", "%-1", "%~1"};
        for (String form : forms) {
            if (form.equals("new Main%().z()")) {
                Checks.fine(head + "- ".repeat(18) + form.replace("%", "") + "; } }");
            } else {
                Checks.gives(valueOf(form), head + "- ".repeat(18) + form.replace("%", "") + "; } }");
            }
            Checks.fault(2, head + "- ".repeat(19) + form.replace("%", "@") + "; } }");
        }
        Checks.gives(0, head + "!".repeat(19) + "true ? 1 : 0; } }");
        Checks.fault(2, head + "!".repeat(19) + "@!true ? 1 : 0; } }");
        Checks.gives(7, head + "(".repeat(18) + "true ? 7 : 0" + ")".repeat(18) + "; } }");
        Checks.fault(2, head + "(".repeat(19) + "true @? 7 : 0" + ")".repeat(19) + "; } }");
        // Each within the same kind.
        Checks.gives(1, head + "m(".repeat(19) + "1" + ")".repeat(19) + "; } }");
        Checks.fault(2, head + "m(".repeat(19) + "m@(1)" + ")".repeat(19) + "; } }");
        Checks.gives(0, head + "g[".repeat(19) + "0" + "]".repeat(19) + "; } }");
        Checks.fault(2, head + "g[".repeat(19) + "g@[0]" + "]".repeat(19) + "; } }");
        Checks.gives(2, head + "new int[".repeat(19) + "2" + "].length".repeat(19) + "; } }");
        Checks.fault(2, head + "new int[".repeat(19) + "new int@[2].length" + "].length".repeat(19) + "; } }");
        Checks.gives(1, head + "true ? ".repeat(19) + "1" + " : 2".repeat(19) + "; } }");
        Checks.fault(2, head + "true ? ".repeat(19) + "true @? 1 : 3" + " : 2".repeat(19) + "; } }");
        Checks.gives(3, head + "false ? 1 : ".repeat(19) + "3; } }");
        Checks.fault(2, head + "false ? 1 : ".repeat(19) + "false @? 1 : 3; } }");
    }

    /** Of eighteen signs - ahead, which change nothing, and the form: what it gives. */
    private static int valueOf(String form) {
        switch (form) {
            case "new int%[3].length":
                return 3;
            case "read%()":
            case "g%[0]":
            case "this.g%[0]":
                return 0;
            case "%-1":
                return -1;
            case "%~1":
                return -2;
            default:
                return 1;
        }
    }

    /** What has ended, or stands ahead, is not around. */
    private static void notWithin() {
        String deep = "(".repeat(19) + "1" + ")".repeat(19);
        Checks.gives(3, Checks.main("return " + deep + " + " + deep + " + " + deep + ";"));
        Checks.gives(1, Checks.main("return " + deep + " == 1 ? 1 : 2;"));
        String less = "(".repeat(18) + "1" + ")".repeat(18);
        Checks.gives(1, Checks.main("return true ? " + less + " : " + less + ";"));
        Checks.fault(2, Checks.main("return true ? " + "(".repeat(18) + "@(1"));
        Checks.fault(2, Checks.main("return true ? 1 : " + "(".repeat(18) + "@(1"));
        Checks.gives(2, "class Main { int m(int a, int b) { return a + b; } int main() { return m(" + less + ", " + less
            + "); } }");
        Checks.gives(2, "class Main { int m(int a, int b) { return a + b; } int main() { return this.m(" + less + ", " + less
            + ") + m(0, 0); } }");
        Checks.gives(0, "class Main { Main[] g; int main() { g = new Main[2]; g[1 - " + less + "] = this; return g[0].g[0].g"
            + "[0].g[0].g[0].g[0].g[0].g[0].g[0].g[0].g[0].g[0].g[0].g[0].g[0].g[0].g[0].g[0].g[0].g[0].g[0] == this ? 0 : 1"
            + "; } }");
        Checks.gives(-4, Checks.main("return -1 + -1 + -1 + " + "- ".repeat(19) + "1;"));
        // The parentheses of if, while, for, print and catch, and the brackets of TYPES, are none of these.
        Checks.fine(Checks.main("if (" + deep + " == 1) ; while (" + deep + " == 2) ; for (int i = " + deep + "; i == " + deep
            + "; i = 2 * " + deep + ") ; print(" + deep + "); return 1;"));
        Checks.fine(Checks.main("{ ".repeat(19) + "Main[] a = null as Main[];" + "} ".repeat(19) + "return 1;"));
        Checks.fault(2, Checks.main("if (" + "(".repeat(19) + "@(true"));
        Checks.fault(2, Checks.main("while (" + "(".repeat(19) + "@(true"));
        Checks.fault(2, Checks.main("for (; " + "(".repeat(19) + "@(true"));
        Checks.fault(2, Checks.main("for (int i = " + "(".repeat(19) + "@(true"));
        Checks.fault(2, Checks.main("for (; ; i = " + "(".repeat(19) + "@(true"));
        Checks.fault(2, Checks.main("print(" + "(".repeat(19) + "@(1"));
        Checks.fault(2, Checks.main("throw " + "(".repeat(19) + "@(this"));
        Checks.fault(2, Checks.main("int x = " + "(".repeat(19) + "@(1"));
        Checks.fault(2, Checks.main("x = " + "(".repeat(19) + "@(1"));
        Checks.fault(2, Checks.main("(".repeat(19) + "@(x"));
    }

    private static void mixedDepth() {
        for (int blocks = 0; blocks <= 18; blocks++) {
            int others = 19 - blocks;
            Checks.gives(1, Checks.main("{ ".repeat(blocks) + "return " + "(".repeat(others) + "1" + ")".repeat(others) + "; "
                + "} ".repeat(blocks)));
            Checks.fault(2, Checks.main("{ ".repeat(blocks) + "return " + "(".repeat(others) + "@-1" + ")".repeat(others)
                + "; " + "} ".repeat(blocks)));
        }
        Checks.gives(1, "class Main { int[] g; int m(int a) { return a; } int main() { g = new int[2]; { { while (true) { "
            + "return m(-(~(g[true ? (0) : 1]))); } } } } }");
    }

    /** "the 61st of these that belong to one LOCAL or STATEMENT itself: signs between two". */
    private static void signs() {
        for (String sign : BETWEEN) {
            String sixty = ("1 " + sign + " ").repeat(60);
            Checks.fine(Checks.main("return " + sixty + "1;"));
            Checks.fine(Checks.main("int x = " + sixty + "1; return 1;"));
            Checks.fine(Checks.main("print(" + sixty + "1); return 1;"));
            Checks.fault(2, Checks.main("return " + sixty + "1 @" + sign + " 1;"));
            Checks.fault(2, Checks.main("int x = " + sixty + "1 @" + sign + " 1;"));
            Checks.fault(2, Checks.main("print(" + sixty + "1 @" + sign + " 1);"));
            // In brackets, too.
            Checks.fault(2, Checks.main("return (" + ("1 " + sign + " ").repeat(30) + "1) + (" + ("1 " + sign + " ").repeat(29)
                + "1 @" + sign + " 1);"));
        }
    }

    private static void truthSigns() {
        for (String sign : new String[] {"&&", "||", "==", "!=", "&", "|", "^"}) {
            String sixty = ("true " + sign + " ").repeat(60);
            Checks.fine(Checks.main("boolean b = " + sixty + "true; return 1;"));
            Checks.fault(2, Checks.main("boolean b = " + sixty + "true @" + sign + " true; return 1;"));
            Checks.fine(Checks.main("if (" + sixty + "true) ; return 1;"));
            Checks.fault(2, Checks.main("if (" + sixty + "true @" + sign + " true) ; return 1;"));
        }
        for (String sign : new String[] {"< 1", "<= 1", "> 1", ">= 1"}) {
            String most = "true == ".repeat(59);
            Checks.fine(Checks.main("boolean b = " + most + "1 " + sign + "; return 1;"));
            Checks.fault(2, Checks.main("boolean b = " + most + "true == 1 @" + sign + "; return 1;"));
        }
        String most = "true == ".repeat(59);
        Checks.fine(Checks.main("boolean b = " + most + "this is Main; return 1;"));
        Checks.fault(2, Checks.main("boolean b = " + most + "true == this @is Main; return 1;"));
        Checks.fine(Checks.main("Object b = this" + " as Main".repeat(60) + "; return 1;"));
        Checks.fault(2, Checks.main("Object b = this" + " as Main".repeat(60) + " @as Main; return 1;"));
        // ? : - ~ ! and = are no signs between two that count.
        Checks.gives(61, Checks.main("int x; x = true ? " + "1 + ".repeat(30) + "1 : " + "1 + ".repeat(30) + "-1; return x + 30;"));
        Checks.gives(61, Checks.main("int x; x = " + "1 + ".repeat(60) + "(true ? - -1 : ~1); return x;"));
    }

    /** ". and [ behind an OPERAND (at it)". */
    private static void chains() {
        String head = "class A { int s() { return 1; } } class Main extends A { Main n; Main[] g; int[] r; int z() { return 1; } "
            + "Main t() { return this; } int main() { n = this; g = new Main[1]; g[0] = this; r = new int[1]; ";
        Checks.gives(1, head + "return " + "n.".repeat(60) + "z(); } }");
        Checks.fault(2, head + "return " + "n.".repeat(60) + "n@.z(); } }");
        Checks.gives(1, head + "return " + "t().".repeat(60) + "z(); } }");
        Checks.fault(2, head + "return " + "t().".repeat(60) + "t()@.z(); } }");
        Checks.gives(1, head + "return " + "g[0].".repeat(30) + "z(); } }");
        Checks.fault(2, head + "return " + "g[0].".repeat(30) + "g@[0].z(); } }");
        Checks.fault(2, head + "return " + "g[0].".repeat(30) + "n@.z(); } }");
        Checks.gives(0, head + "return " + "n.".repeat(59) + "r[0]; } }");
        Checks.fault(2, head + "return " + "n.".repeat(60) + "r@[0]; } }");
        Checks.gives(1, head + "return " + "n.".repeat(59) + "r.length; } }");
        Checks.fault(2, head + "return " + "n.".repeat(60) + "r@.length; } }");
        // The . of super and the brackets of new, calls and read belong to the OPERAND.
        Checks.gives(61, head + "return super.s()" + " + 1".repeat(60) + "; } }");
        Checks.fault(2, head + "return super.s()" + " + 1".repeat(60) + " @+ 1; } }");
        Checks.gives(60, head + "return new int[1].length" + " + 1".repeat(59) + "; } }");
        Checks.fault(2, head + "return new int[1].length" + " + 1".repeat(59) + " @+ 1; } }");
        Checks.gives(61, head + "return z()" + " + 1".repeat(60) + "; } }");
        Checks.gives(60, head + "return (read())" + " + 1".repeat(60) + "; } }");
        // Of an = both sides together.
        Checks.gives(30, head + "int x; " + "n.".repeat(30) + "r[0] = 1" + " + 1".repeat(29) + "; return r[0]; } }");
        Checks.fault(2, head + "int x; " + "n.".repeat(30) + "r[0] = 1" + " + 1".repeat(29) + " @+ 1; } }");
        Checks.fine(head + "n.".repeat(60) + "z(); return 1; } }");
        Checks.fault(2, head + "n.".repeat(60) + "n@.z(); return 1; } }");
    }

    /** "that belong to one LOCAL or STATEMENT itself (not to a STATEMENT in it)". */
    private static void ownSigns() {
        String sixty = "1" + " + 1".repeat(60);
        String fiftyNine = "1" + " + 1".repeat(59);
        Checks.fine(Checks.main("if (" + fiftyNine + " == 1) print(" + sixty + "); else print(" + sixty + "); return " + sixty
            + ";"));
        Checks.fine(Checks.main("while (" + fiftyNine + " == 1) { print(" + sixty + "); int x = " + sixty + "; } return 1;"));
        Checks.fine(Checks.main("try { print(" + sixty + "); print(" + sixty + "); } catch (Zero z) { print(" + sixty
            + "); } finally { print(" + sixty + "); } return 1;"));
        Checks.fault(2, Checks.main("if (" + fiftyNine + " == 1 @&& true) ; return 1;"));
        Checks.fault(2, Checks.main("while (" + fiftyNine + " == 1 @&& true) ; return 1;"));
        // FIRST, E and NEXT are of the for itself.
        String twenty = "1" + " + 1".repeat(20);
        Checks.fine(Checks.main("for (int i = " + twenty + "; i < " + "1" + " + 1".repeat(19) + "; i = " + twenty + ") print("
            + sixty + "); return 1;"));
        Checks.fault(2, Checks.main("for (int i = " + twenty + "; i < " + twenty + "; i = 1" + " + 1".repeat(19) + " @+ 1) ;"));
        Checks.fault(2, Checks.main("for (int i = " + sixty + "; i @< 1; ) ;"));
        Checks.fault(2, Checks.main("for (int i = " + sixty + " @+ 1; i < 1; ) ;"));
        Checks.fault(2, Checks.main("for (; ; x = " + sixty + " @+ 1) ;"));
        Checks.fault(2, Checks.main("if (true) print(" + sixty + " @+ 1); return 1;"));
        Checks.fault(2, Checks.main("if (true) ; else print(" + sixty + " @+ 1); return 1;"));
        Checks.fault(2, Checks.main("throw " + "(this)" + " as Main".repeat(60) + " @as Main;"));
        Checks.fault(2, Checks.main("m(" + twenty + ", " + twenty + ", " + twenty + " @+ 1);"));
    }

    /** "the first one, token by token, of one token the least". */
    private static void leastFault() {
        Checks.fault(1, Checks.main("{ ".repeat(20) + "@]"));
        Checks.fault(1, Checks.main("{ ".repeat(20) + "@else"));
        Checks.fault(1, Checks.main("{ ".repeat(20) + "@#"));
        Checks.fault(1, Checks.main("{ ".repeat(20) + "@12345678901"));
        Checks.fault(1, Checks.main("return " + "(".repeat(19) + "@)"));
        Checks.fault(1, Checks.main("return " + "(".repeat(19) + "1 @("));
        Checks.fault(1, Checks.main("return " + "1 + ".repeat(60) + "@+"));
        Checks.fault(1, Checks.main("return " + "1 + ".repeat(60) + "1 @="));
        Checks.fault(1, Checks.main("return " + "this" + " as Main".repeat(60) + " @+ 1;"));
        Checks.fault(2, Checks.main("return " + "1 + ".repeat(60) + "1 @+ #"));
        // A token that is none can't be the first one too many.
        String tooLong = "abcdefghijklmnopq";
        Checks.fault(1, "class A { int " + numbered(20, "f#", ", ") + ", @" + tooLong + "; }" + MAIN);
        Checks.fault(1, "class A { int " + numbered(20, "f#", ", ") + "; int @" + tooLong + "; }" + MAIN);
        Checks.fault(1, "class A { " + numbered(30, "void m#() { } ", "") + "void @" + tooLong + "() { } }" + MAIN);
        Checks.fault(1, "class A { void m(" + numbered(8, "int p#", ", ") + ", @" + tooLong + " p) { } }" + MAIN);
        Checks.fault(1, Checks.main("{ ".repeat(20) + "@" + tooLong + " = 1;"));
        Checks.fault(1, Checks.main("{ ".repeat(20) + "@int1234567890abcdef x;"));
        Checks.fault(1, Checks.main("return @# " + "1 + ".repeat(61)));
    }
}
