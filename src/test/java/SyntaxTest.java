/** Promise 4, faults 1 and 2: tokens, grammar and limits. */
public final class SyntaxTest {
    public static void main(String[] args) {
        tokens();
        declarations();
        statements();
        expressions();
        Checks.end();
    }

    private static void body(int number, String marked) {
        Checks.fault(number, Checks.main(marked));
    }

    private static void tokens() {
        Checks.gives(3, "class\tMain\r\n{ // any \u0000\u00ff byte } @\nint main(){return 1+2;}}// the end");
        Checks.gives(8, Checks.main("int a1b2=8;return a1b2;//\n"));
        Checks.fault(1, "class Main { @# }");
        Checks.fault(1, "@\u00e4");
        Checks.fault(1, "@\u0000");
        Checks.fault(1, "class Main { int @_a; }");
        Checks.fine(Checks.main("int abcdefghijklmnop = 1; return abcdefghijklmnop;"));
        body(1, "int @abcdefghijklmnopq = 1; return 1;");
        Checks.gives(2147483647, Checks.main("return 2147483647;"));
        Checks.gives(1, Checks.main("return 0000000001;"));
        body(1, "return @00000000001;");
        body(1, "return @2147483648;");
        body(1, "return @9999999999;");
        body(1, "return @1a;");
        body(1, "return 1@_;");
        // A fault further on does not matter, nor does one of a name.
        body(1, "return @) 12345678901 x;");
        Checks.fault(1, "class Object { int f; int f; } class Main @x");
        // Tokens are as long as they can be.
        body(1, "return 1 >>> @> 2;");
        body(1, "return 1 >> @= 2;");
        Checks.gives(1, Checks.main("boolean b=1<=2==true;int a=6>>1>>>1;return b&&a==1?1:0;"));
        Checks.gives(1, Checks.main("return true&true&&!!true?1:0;"));
        body(1, "return 6 / @* 2;");
        for (String word : ("as boolean break catch class continue else extends false finally for if implements int "
            + "interface is length new null print read return super this throw true try void while").split(" ")) {
            Checks.fault(1, "class @" + word + " { }");
        }
    }

    private static void declarations() {
        Checks.fault(1, "@x");
        Checks.fault(1, "class Main { }@;");
        Checks.fault(1, "class Main { @");
        Checks.fault(1, "class Main  @");
        Checks.fault(1, "class @{ }");
        Checks.fault(1, "class A extends @{ }");
        Checks.fault(1, "class A extends B@, C { }");
        Checks.fault(1, "class A implements B @extends C { }");
        Checks.fault(1, "class A implements B, @{ }");
        Checks.fault(1, "interface I @implements J { }");
        Checks.fault(1, "interface I { int f@; }");
        Checks.fault(1, "interface I { int f() @{ } }");
        Checks.fault(1, "class A { int f()@; }");
        Checks.fault(1, "class A { int f @= 1; }");
        Checks.fault(1, "class A { void f@; }");
        Checks.fault(1, "class A { void@[] f() { } }");
        Checks.fault(1, "class A { int[@3] f; }");
        Checks.fault(1, "class A { int[]@[] f; }");
        Checks.fault(1, "class A { int f, @; }");
        Checks.fault(1, "class A { int f(int a,@) { } }");
        Checks.fault(1, "class A { int f(@void a) { } }");
        Checks.fault(1, "class A { int f(int@) { } }");
        Checks.fine("interface I { } interface J extends I { void f(int a, boolean[] b); } "
            + "class A { int a, b; A[] c; } class B extends A implements I { } class Main { int main() { return 1; } }");
    }

    private static void statements() {
        body(1, "int@; return 1;");
        body(1, "if (true) @int x = 1; return 1;");
        body(1, "if (true) Main @x; return 1;");
        body(1, "if (true) ; else @int x; return 1;");
        body(1, "while (true) @int x; return 1;");
        body(1, "for (; ; ) @boolean x; return 1;");
        body(1, "5@; return 1;");
        body(1, "x@; return 1;");
        body(1, "x @+ 1; return 1;");
        body(1, "read()@; return 1;");
        body(1, "(main())@; return 1;");
        body(1, "new Main()@; return 1;");
        body(1, "new int[3] @= 1; return 1;");
        body(1, "(x) @= 1; return 1;");
        body(1, "x.length @= 1; return 1;");
        body(1, "main() @= 1; return 1;");
        body(1, "super.main @= 1; return 1;");
        body(1, "@-x = 1; return 1;");
        body(1, "@else ; return 1;");
        body(1, "try { } @return 1;");
        body(1, "try @; finally { } return 1;");
        body(1, "try { } catch (@int x) { } return 1;");
        body(1, "try { } catch (Main@) { } return 1;");
        body(1, "try { } catch (Main@[] x) { } return 1;");
        body(1, "try { } finally { } @catch (Main m) { } return 1;");
        body(1, "try { } finally { } @finally { } return 1;");
        body(1, "for (int i@; ; ) ; return 1;");
        body(1, "for (main()@; ; ) ; return 1;");
        Checks.fault(1, "class Main { int main() { for (; ; ) @} }");
        body(1, "for (; ; x@) ; return 1;");
        body(1, "for (; ; @int x = 1) ; return 1;");
        body(1, "for (;@) ; return 1;");
        body(1, "while @true ; return 1;");
        body(1, "while (@) ; return 1;");
        body(1, "print @1; return 1;");
        body(1, "throw@; return 1;");
        body(1, "break @1; return 1;");
        body(1, "@catch (Main x) { } return 1;");
        Checks.fault(1, "class Main { int main() { { return 1; } }@");
        Checks.gives(6, Checks.main("; { } int[] a = new int[2]; a[0] = 6; Main[] m; for (; ; ) { break; } "
            + "for (Main x = this; x == null; main()) ; new Main().other(); return a[0]; } void other() { "));
        // else is of the nearest if.
        Checks.gives(3, Checks.main("int x = 3; if (false) if (true) x = 1; else x = 2; return x;"));
        Checks.gives(2, Checks.main("int x = 3; if (true) if (false) x = 1; else x = 2; return x;"));
    }

    private static void expressions() {
        body(1, "return 1 +@;");
        body(1, "return 1 @2;");
        body(1, "return (1@;");
        body(1, "return a[1@;");
        body(1, "return a[@];");
        body(1, "return f(1,@);");
        body(1, "return 1 ? 2@;");
        body(1, "return 1 ? 2 @, 3;");
        body(1, "return super@;");
        body(1, "return super.f@;");
        body(1, "return super.@length;");
        body(1, "return a.@1;");
        body(1, "return a.length@();");
        body(1, "return new @;");
        body(1, "return new Main@;");
        body(1, "return new Main(@1);");
        body(1, "return new int@();");
        body(1, "return new int[@];");
        body(1, "return read@;");
        body(1, "return read(@1);");
        body(1, "return a is @1;");
        body(1, "return a as Main[@1];");
        // Behind the TYPE of is and as no stronger sign and no CHAIN goes on.
        body(1, "return a as Main @+ 1;");
        body(1, "return a as Main @<< 1;");
        body(1, "return 1 == a as Main @* 1;");
        body(1, "return a as Main@.f;");
        body(1, "return (a as Main[]@[1]);");
        body(1, "return @+1;");
        Checks.gives(1, Checks.main("Object o = this; return o as Main is Main == true ? 1 : 2;"));
        // From the weakest sign on, each from the left; ? from the right.
        Checks.gives(7, Checks.main("return 1 + 2 * 3;"));
        Checks.gives(-4, Checks.main("return 1 - 2 - 3;"));
        Checks.gives(24, Checks.main("return 1 + 2 << 3;"));
        Checks.gives(2, Checks.main("return 100 / 10 / 5;"));
        Checks.gives(-6, Checks.main("return -2 * 3;"));
        Checks.gives(7, Checks.main("return 1 | 2 ^ 3 & 2 | 6;"));
        Checks.gives(5, Checks.main("return 4 | 6 ^ 7;"));
        Checks.gives(1, Checks.main("return 1 < 2 == 3 > 2 ? 1 : 2;"));
        Checks.gives(1, Checks.main("return true || false && false ? 1 : 2;"));
        Checks.gives(1, Checks.main("return true | false & false ? 1 : 2;"));
        Checks.gives(0, Checks.main("return true ^ true | false ? 1 : 0;"));
        Checks.gives(3, Checks.main("return false ? 1 : false ? 2 : 3;"));
        Checks.gives(1, Checks.main("return true ? 1 : true ? 2 : 3;"));
        Checks.gives(2, Checks.main("return true ? false ? 1 : 2 : 3;"));
        Checks.gives(5, Checks.main("return - - 5;"));
        Checks.gives(-1, Checks.main("return ~-~-1;"));
        Checks.gives(4, Checks.main("return new int[4].length;"));
        Checks.gives(0, Checks.main("return new int[4][3];"));
    }
}
