/** Chapter 1, TEXT: tokens at their bounds, and every part of the grammar that may be left out or come again. */
public final class TextEdgesTest {
    private static final String MAIN = "class Main{int main(){return 1;}}";
    private static final String WORDS = "as boolean break catch class continue else extends false finally for if "
        + "implements int interface is length new null print read return super this throw true try void while";

    public static void main(String[] args) {
        wholeTape();
        blanks();
        notes();
        names();
        words();
        numbers();
        longestTokens();
        signsWithoutBlanks();
        powers();
        lists();
        leftOut();
        locals();
        semicolons();
        chains();
        Checks.end();
    }

    private static boolean isBlank(int c) {
        return c == 9 || c == 10 || c == 13 || c == 32;
    }

    private static boolean goesOnAName(int c) {
        return c >= '0' && c <= '9' || c >= 'A' && c <= 'Z' || c >= 'a' && c <= 'z';
    }

    private static void body(int number, String marked) {
        Checks.fault(number, Checks.main(marked));
    }

    private static void gives(int result, String statements) {
        Checks.gives(result, Checks.main(statements));
    }

    /** "A TAPE has at most 5,000 bytes"; "Its place is the token's first byte (the length, at the end)." */
    private static void wholeTape() {
        Checks.gives(1, " ".repeat(5000 - MAIN.length()) + MAIN);
        Checks.gives(1, MAIN + " ".repeat(5000 - MAIN.length()));
        Checks.gives(1, MAIN + "/".repeat(5000 - MAIN.length()));
        Checks.fault(1, " ".repeat(4999) + "@#");
        Checks.fault(1, " ".repeat(4999) + "@x");
        Checks.fault(9, " ".repeat(5000) + "@");
        Checks.fault(9, "/".repeat(5000) + "@");
        Checks.fault(1, "class A {" + " ".repeat(4991) + "@");
        Checks.fault(1, MAIN.substring(0, MAIN.length() - 1) + "\n".repeat(5001 - MAIN.length()) + "@");
        Checks.fault(1, "@}");
        Checks.fault(9, "@");
    }

    private static void blanks() {
        for (int c = 0; c < 256; c++) {
            String at = String.valueOf((char) c);
            if (isBlank(c)) {
                Checks.fine(MAIN + at);
                Checks.fine(at + MAIN);
                Checks.fine("class" + at + MAIN.substring(6));
                continue;
            }
            Checks.fault(1, MAIN + "@" + at);
            Checks.fault(1, "@" + at + " " + MAIN);
            // What goes on a NAME makes one token of both.
            Checks.fault(1, goesOnAName(c) ? "@class" + at + MAIN.substring(6) : "class@" + at + MAIN.substring(6));
        }
    }

    /** "NOTES (from // up to a byte 10 or the end; in them any byte)". */
    private static void notes() {
        for (int c = 0; c < 256; c++) {
            String at = String.valueOf((char) c);
            if (c == 10) {
                Checks.fault(1, MAIN + "//" + at + "@}");
            } else {
                Checks.fine(MAIN + "//" + at + "}");
                Checks.fine("class//" + at + "{ }\nMain{int main(){return 1;}}");
            }
        }
        Checks.fine(MAIN + "//");
        Checks.fine("//\n" + MAIN + "///");
        Checks.fine("// a // b\n// c\n" + MAIN);
        Checks.fault(1, MAIN + "@/");
        Checks.fault(1, MAIN + "@/ /");
        Checks.fault(1, MAIN + "@/*");
        gives(3, "return 1//2;\n+2;");
        gives(3, "return 6/2//\n;");
        body(1, "return 6/ @/2;");
    }

    /** "NAMES: a letter A .. Z, a .. z, then letters and digits; 16 at most". */
    private static void names() {
        for (String name : new String[] {"A", "Z", "a", "z", "a0", "a9", "Az", "aZ", "z0A9", "abcdefghijklmno",
            "abcdefghijklmnop", "A123456789012345"}) {
            gives(5, "int " + name + " = 5; return " + name + ";");
            JinjaTongue x = Checks.program("class " + name + " { } " + MAIN);
            for (int i = 0; i < name.length(); i++) {
                Checks.due("letter(7, " + i + ")", x.letter(7, i), name.charAt(i));
            }
            Checks.due("letter(7, " + name.length() + ")", x.letter(7, name.length()), -1);
        }
        for (String name : new String[] {"abcdefghijklmnopq", "A1234567890123456", "implementsextends", "a".repeat(40)}) {
            body(1, "int @" + name + " = 5; return 1;");
            Checks.fault(1, "class @" + name + " { } " + MAIN);
        }
        for (String wrong : new String[] {"_", "$", "`", "\"", "'", "\\", "\u00c4", "\u007f"}) {
            body(1, "int @" + wrong + "a = 5; return 1;");
            body(1, "int a@" + wrong + " = 5; return 1;");
        }
        // Small and great letters differ, and the last of sixteen counts.
        gives(6, "int abcdefghijklmnop = 1; int abcdefghijklmnoq = 5; return abcdefghijklmnop + abcdefghijklmnoq;");
        gives(3, "int a = 1; int A = 2; return a + A;");
    }

    /** "and no WORDS": a WORD is none, but what is longer, or written otherwise, is. */
    private static void words() {
        for (String word : WORDS.split(" ")) {
            Checks.fault(1, "class @" + word + " { } " + MAIN);
            Checks.fault(1, "class A { int @" + word + "; } " + MAIN);
            Checks.fault(1, "class A { void a(int @" + word + ") { } } " + MAIN);
            for (String name : new String[] {word + "0", word + "x", "x" + word,
                Character.toUpperCase(word.charAt(0)) + word.substring(1)}) {
                gives(5, "int " + name + " = 5; return " + name + ";");
            }
        }
    }

    /** "NUMBERS: 1 to 10 digits, 2147483647 at most, no letter or digit right behind." */
    private static void numbers() {
        String[] right = {"0", "9", "10", "00", "0000000000", "0000000007", "0999999999", "1000000000", "2147483646",
            "2147483647"};
        for (String number : right) {
            gives(Integer.parseInt(number), "return " + number + ";");
        }
        String[] wrong = {"00000000000", "00000000001", "2147483648", "2147483650", "2147483700", "2200000000",
            "3000000000", "4294967296", "4294967297", "9999999999", "12345678901", "1".repeat(30), "1a", "1A", "1z", "1Z",
            "0x1", "2147483647a", "1L", "1e5"};
        for (String number : wrong) {
            body(1, "return @" + number + ";");
            body(1, "return 1 + @" + number + ";");
        }
        body(1, "return 1 @2;");
        body(1, "return 1.@5;");
    }

    /** "TOKENS, each as long as it can be". */
    private static void longestTokens() {
        body(1, "return 1 && @& 2;");
        body(1, "return 1&&@&2;");
        body(1, "return 1||@|2;");
        body(1, "return 1==@=2;");
        body(1, "return 1!=@=2;");
        body(1, "return 1<<@<2;");
        body(1, "return 1>>>@>2;");
        body(1, "return 1<=@>2;");
        body(1, "return 1@=<2;");
        body(1, "return 1< @=2;");
        body(1, "return 1 > @> 2;");
        body(1, "return 1 >> @> 2;");
        body(1, "return 1 & @& 2;");
        body(1, "return 1 | @| 2;");
        body(1, "return 1 @= = 2;");
        body(1, "return 1 @! = 2;");
        body(10, "@ifx(true); return 1;");
        body(1, "return1@;");
        body(1, "return (1)@2;");
        Checks.fault(1, "@classMain { }");
    }

    /** Each of the SIGNS stands between two without blanks. */
    private static void signsWithoutBlanks() {
        gives(-1, "int a=5;int b=2;int[]c=new int[3];c[0]=a+b;c[1]=a-b;c[2]=a*b;{c[0]=c[0]-7;}return c[0]-1;");
        gives(1, "int a=5;return a/2==2&&a%2==1&&(a&4)==4&&(a|2)==7&&(a^1)==4&&~a==-6&&!(a<5)&&!(a>5)&&a<=5&&a>=5?1:0;");
        gives(1, "int a=5;return a!=4&&a==5&&a<<1==10&&a>>1==2&&-a>>>31==1||false?1:0;");
        gives(1, "return 1<-1?0:1>=-1?1:2;");
        gives(-1, "return -1>>>-32;");
        gives(4, "return 1- -3;");
        gives(4, "return 1--3;");
        gives(1, "return true!=!true?1:0;");
        gives(1, "return true==!false?1:0;");
        gives(1, "return true&!false&&!!true?1:0;");
    }

    /** "E, from the weakest sign on, each from the left": each two neighbours, in both orders. */
    private static void powers() {
        int[] due = {1, 1, 0, 0, 1, 1, 1, 1, 0, 0};
        String[] truths = {"true || false && false", "false && false || true", "false && false | true",
            "true | true && false", "true | true ^ true", "true ^ true | true", "true ^ true & false",
            "false & true ^ true", "false & false == false", "false == true & false"};
        for (int i = 0; i < truths.length; i++) {
            gives(due[i], "return " + truths[i] + " ? 1 : 0;");
        }
        gives(1, "return true == 1 < 2 ? 1 : 0;");
        gives(1, "return 1 < 2 == true ? 1 : 0;");
        gives(1, "return true != 2 <= 1 ? 1 : 0;");
        gives(1, "return 2 >= 1 != false ? 1 : 0;");
        gives(1, "return true == this is Main ? 1 : 0;");
        gives(1, "return this is Main == true ? 1 : 0;");
        gives(1, "return 1 < 1 << 1 ? 1 : 0;");
        gives(0, "return 1 << 1 < 2 ? 1 : 0;");
        gives(1, "return 9 > 9 >> 1 ? 1 : 0;");
        gives(1, "return -1 >>> 1 >= 3 ? 1 : 0;");
        gives(32, "return 1 << 2 + 3;");
        gives(24, "return 1 + 2 << 3;");
        gives(2, "return 16 >> 5 - 2;");
        gives(1, "return 6 - 2 >>> 2;");
        gives(7, "return 1 + 2 * 3;");
        gives(5, "return 1 * 2 + 3;");
        gives(1, "return 7 - 12 / 2;");
        gives(4, "return 7 / 2 + 1;");
        gives(6, "return 7 - 7 % 2;");
        gives(-6, "return -2 * 3;");
        gives(-2, "return ~2 + 1;");
        gives(0, "return !false & false ? 1 : 0;");
        gives(1, "return !false == true ? 1 : 0;");
        gives(-4, "return -new int[4].length;");
        gives(-1, "int[] a = new int[2]; a[1] = 1; return -a[1];");
        gives(1, "return !new boolean[1][0] ? 1 : 0;");
        // Each from the left.
        gives(-4, "return 1 - 2 - 3;");
        gives(2, "return 1 - 2 + 3;");
        gives(2, "return 100 / 10 / 5;");
        gives(20, "return 16 / 4 * 5;");
        gives(2, "return 20 % 7 % 4;");
        gives(32, "return 1 << 2 << 3;");
        gives(4, "return 64 >> 3 >> 1;");
        gives(1, "return 1 == 2 == false ? 1 : 0;");
        gives(1, "return 1 != 2 != false ? 1 : 0;");
        body(11, "return @1 < 2 < 3 ? 1 : 0;");
        gives(1, "return this as Object is Main ? 1 : 0;");
        // ? : is the weakest; "the last one as far as it can; from the right".
        gives(4, "return false ? 1 : 3 + 1;");
        gives(1, "return true ? 1 : 3 + 1;");
        gives(2, "return false || true ? 2 : 3;");
        gives(3, "return true ? false ? 2 : 3 : 4;");
        gives(5, "return false ? 2 : false ? 4 : 5;");
        gives(2, "return true ? 2 : false ? 4 : 5;");
        gives(9, "return (true ? 2 : 3) + 7;");
        body(1, "return true ? 1 : 2 @: 3;");
    }

    /** "x,, is one or more with commas between." */
    private static void lists() {
        Checks.fine("interface I { } interface J extends I { } interface K { } interface L extends J, K { } "
            + "interface M extends J, K, L { } class A implements I { } class B extends A implements K, L, M { } " + MAIN);
        Checks.fault(1, "interface I extends @{ } " + MAIN);
        Checks.fault(1, "interface I { } interface J extends I @I { } " + MAIN);
        Checks.fault(1, "interface I { } interface J extends I, @{ } " + MAIN);
        Checks.fault(1, "class A implements @{ } " + MAIN);
        Checks.fault(1, "interface I { } class A implements I, @, I { } " + MAIN);
        Checks.fault(1, "class A extends @implements I { } " + MAIN);
        Checks.fault(1, "class A { int a, b, @; } " + MAIN);
        Checks.fault(1, "class A { int @, a; } " + MAIN);
        Checks.fault(1, "class A { int a @b; } " + MAIN);
        Checks.fault(1, "class A { int a, @int b; } " + MAIN);
        Checks.fault(1, "class A { int a, b@() { } } " + MAIN);
        Checks.fault(1, "class A { int a @} " + MAIN);
        Checks.fault(1, "class A { void a @} " + MAIN);
        Checks.fault(1, "class A { void a@, b; } " + MAIN);
        Checks.fault(1, "class A { int @} " + MAIN);
        Checks.fault(1, "class A { int a(int b @int c) { } } " + MAIN);
        Checks.fault(1, "class A { int a(int b, @) { } } " + MAIN);
        Checks.fault(1, "class A { int a(@, int b) { } } " + MAIN);
        Checks.fault(1, "class A { int a(int b @} " + MAIN);
        Checks.fault(1, "interface A { int a(int b @; } " + MAIN);
        Checks.fault(1, "interface A { int a() @} " + MAIN);
        Checks.fault(1, "interface A { int a()@, b(); } " + MAIN);
        body(1, "f(1, @); return 1;");
        body(1, "f(@, 1); return 1;");
        body(1, "f(1 @1); return 1;");
        body(1, "f(1@; return 1;");
        body(1, "f(@int); return 1;");
        for (int n = 0; n <= 8; n++) {
            StringBuilder parameters = new StringBuilder();
            StringBuilder arguments = new StringBuilder();
            StringBuilder sum = new StringBuilder("0");
            for (int i = 0; i < n; i++) {
                parameters.append(i == 0 ? "" : ", ").append("int p").append(i);
                arguments.append(i == 0 ? "" : ", ").append(1 << i);
                sum.append(" + p").append(i);
            }
            Checks.gives((1 << n) - 1, "class Main { int main() { return f(" + arguments + "); } int f(" + parameters
                + ") { return " + sum + "; } }");
        }
    }

    /** "x? may be left out, x* comes any number of times (none, too)". */
    private static void leftOut() {
        Checks.fine("class A { } interface I { } class B { int a; } class C { void a() { } } " + MAIN);
        String[] firsts = {"", "int i = 0", "i = 0"};
        String[] conditions = {"", "i < 3"};
        String[] nexts = {"", "i = i + 1", "next()"};
        for (String first : firsts) {
            for (String condition : conditions) {
                for (String next : nexts) {
                    Checks.gives(3, "class Main { int i; int n; void next() { i = i + 1; } int main() { for (" + first + "; "
                        + condition + "; " + next + ") { n = n + 1; if (n > 3 || n == 3) break; } return n; } }");
                }
            }
        }
        gives(1, "try { } catch (Zero a) { } return 1;");
        gives(1, "try { } finally { } return 1;");
        gives(1, "try { } catch (Zero a) { } catch (Null b) { } catch (Zero c) { } return 1;");
        gives(1, "try { } catch (Zero a) { } catch (Null b) { } finally { } return 1;");
        body(1, "try { } @; return 1;");
        Checks.fault(1, "class Main { int main() { try { } @} }");
        body(1, "try { } catch @{ } return 1;");
        body(1, "try { } catch (@) { } return 1;");
        body(1, "try { } catch (Zero a@, Null b) { } return 1;");
        body(1, "try { } catch (Zero a) @; return 1;");
        body(1, "try { } finally @; return 1;");
        body(1, "@finally { } return 1;");
        body(1, "if (true) ; else @else ; return 1;");
        body(1, "if (true) @else ; return 1;");
        body(1, "if @true ; return 1;");
        body(1, "if (@) ; return 1;");
        body(1, "if (true @; return 1;");
        body(1, "for @; return 1;");
        body(1, "for (@) ; return 1;");
        body(1, "for (; ; @; ) ; return 1;");
        body(1, "for (int i = 0@, int j = 0; ; ) ; return 1;");
        body(1, "while (true@; return 1;");
        body(1, "while (true@, true) ; return 1;");
    }

    /** "a NAME and a NAME, or [ and ], behind it: a LOCAL". */
    private static void locals() {
        gives(1, "Main a; Main[] b; int c; int[] d; boolean e; boolean[] f; Main g = this; Main[] h = null; return 1;");
        gives(2, "int[] a = new int[1]; a[0] = 2; return a[0];");
        body(1, "Main a@, b; return 1;");
        body(1, "Main[] @; return 1;");
        body(1, "Main[]@[] a; return 1;");
        body(1, "int[@1] a; return 1;");
        body(1, "Main a @b; return 1;");
        body(1, "Main a =@; return 1;");
        body(1, "@void a; return 1;");
        // Where a STATEMENT stands, there is none.
        for (String ahead : new String[] {"if (true) ", "if (true) ; else ", "while (true) ", "for (; ; ) "}) {
            body(1, ahead + "@int a; return 1;");
            body(1, ahead + "@boolean[] a; return 1;");
            body(1, ahead + "Main @a; return 1;");
            body(1, ahead + "Main[@] a; return 1;");
            Checks.fine(Checks.main(ahead + "{ Main a; Main[] b; } return 1;"));
        }
        // FIRST has an E always, NEXT is no LOCAL.
        body(1, "for (Main a@; ; ) ; return 1;");
        body(1, "for (Main[] a@; ; ) ; return 1;");
        body(1, "for (; ; Main @a = null) ; return 1;");
        body(1, "for (; ; Main[@] a = null) ; return 1;");
        body(1, "for (Main@; ; ) ; return 1;");
        gives(4, "for (Main[] a = new Main[4]; ; ) return a.length;");
    }

    /** What ends with a semicolon does not end without it. */
    private static void semicolons() {
        String[] statements = {"int x", "int x = 1", "Main x", "Main[] x = null", "y = 1", "this.y = 1", "z[0] = 1", "main()",
            "this.main()", "return 1", "return", "break", "continue", "throw this", "print(1)"};
        for (String statement : statements) {
            Checks.fault(1, "class Main { int y; int[] z; int main() { while (true) { " + statement + " @} } }");
            Checks.fault(1, "class Main { int y; int[] z; int main() { while (true) { " + statement + " @if (true) ; } } }");
            Checks.fault(1, "class Main { int y; int[] z; int main() { while (true) { " + statement + "@, y = 1; } } }");
        }
        Checks.fault(1, "class A { int a @int b; } " + MAIN);
        Checks.fault(1, "interface A { int a() @int b(); } " + MAIN);
    }

    /** "STATEMENTS, FIRST and NEXT that begin so: a CHAIN, then = if it is a PLACE, else what stands behind a CALL." */
    private static void chains() {
        String[] neither = {"1", "true", "null", "this", "(x)", "(main())", "new Main()", "new int[1]", "read()", "x.length",
            "main().length"};
        for (String chain : neither) {
            body(1, chain + "@; return 1;");
            body(1, chain + " @= 1; return 1;");
            body(1, "for (" + chain + "@; ; ) ; return 1;");
            body(1, "for (" + chain + " @= 1; ; ) ; return 1;");
            body(1, "for (; ; " + chain + "@) ; return 1;");
            body(1, "for (; ; " + chain + " @= 1) ; return 1;");
        }
        for (String place : new String[] {"x", "x.y", "x[0]", "main().y", "this.y", "(x).y", "new Main().y", "new int[1][0]"}) {
            body(1, place + "@; return 1;");
            body(1, place + " @== 1; return 1;");
            body(1, place + " =@; return 1;");
            body(1, "for (" + place + "@; ; ) ; return 1;");
            body(1, "for (; ; " + place + "@) ; return 1;");
        }
        for (String call : new String[] {"main()", "this.main()", "super.main()", "(x).main()", "x[0].main()", "1.main()"}) {
            body(1, call + " @= 1; return 1;");
            body(1, call + " @+ 1; return 1;");
            body(1, "for (" + call + "@; ; ) ; return 1;");
            body(1, "for (; ; " + call + " @= 1) ; return 1;");
        }
        body(1, "x = 1 @= 2; return 1;");
        body(1, "@!x = 1; return 1;");
        body(1, "super@[0] = 1; return 1;");
        body(1, "this@(); return 1;");
        body(1, "main()@(); return 1;");
        body(1, "x.y()@(); return 1;");
        body(1, "x[0]@(); return 1;");
        body(1, "new Main@.y(); return 1;");
        body(1, "new @this(); return 1;");
        body(1, "return @length;");
        body(1, "return x.@read();");
        body(1, "return x.@this;");
        body(1, "return x.@(1);");
    }
}
