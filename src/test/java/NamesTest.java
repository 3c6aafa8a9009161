/** Promise 4, faults 3 to 9: names, in their rounds. */
public final class NamesTest {
    private static final String MAIN = " class Main { int main() { return 1; } }";

    public static void main(String[] args) {
        twice();
        unknown();
        kind();
        ring();
        signature();
        missing();
        noMain();
        rounds();
        Checks.end();
    }

    private static void twice() {
        Checks.fault(3, "class A { } class @A { }" + MAIN);
        Checks.fault(3, "class A { } interface @A { }" + MAIN);
        for (String name : new String[] {"Object", "Null", "Cast", "Zero", "Index", "Store", "Size"}) {
            Checks.fault(3, "class @" + name + " { }" + MAIN);
        }
        Checks.fault(3, "class A { int a, @a; }" + MAIN);
        Checks.fault(3, "class A { int a; boolean @a; }" + MAIN);
        Checks.fault(3, "class A { void a() { } void @a(int b) { } }" + MAIN);
        Checks.fault(3, "interface A { void a(); int @a(); }" + MAIN);
        Checks.fine("class A { int a; void a() { } } class B { int a; void a() { } } class a { }" + MAIN);
        // A field that a class above has is of the third round.
        Checks.fault(3, "class B extends A { int @a; } class A { int a; }" + MAIN);
        Checks.fault(3, "class C extends B { int @a; } class B extends A { } class A { int a; }" + MAIN);
        Checks.fine("class A { int a; } class B extends A { int b; } class C extends A { int b; }" + MAIN);
    }

    private static void unknown() {
        Checks.fault(4, "class A { @B b; }" + MAIN);
        Checks.fault(4, "class A { @B[] b; }" + MAIN);
        Checks.fault(4, "class A { @B b() { } }" + MAIN);
        Checks.fault(4, "class A { void b(int a, @B b) { } }" + MAIN);
        Checks.fault(4, "interface A { void b(@B b); }" + MAIN);
        Checks.fault(4, "class A extends @B { }" + MAIN);
        Checks.fault(4, "class A implements @B { }" + MAIN);
        Checks.fault(4, "interface A extends @B { }" + MAIN);
        Checks.fault(4, Checks.main("@A a; return 1;"));
        Checks.fault(4, Checks.main("for (@A a = null; ; ) ;"));
        Checks.fault(4, Checks.main("return null is @A ? 1 : 2;"));
        Checks.fault(4, Checks.main("return (null as @A[]).length;"));
        Checks.fault(4, Checks.main("Object o = new @A(); return 1;"));
        Checks.fault(4, Checks.main("Object o = new @A[1]; return 1;"));
        Checks.fault(4, Checks.main("try { } catch (@A a) { } return 1;"));
        Checks.fine(Checks.main("Object o = new Zero[1]; try { } catch (Null a) { } return o is Size[] ? 1 : 0;"));
    }

    private static void kind() {
        String i = "interface I { } ";
        Checks.fault(5, i + "class A extends @I { }" + MAIN);
        Checks.fault(5, "interface A extends @Object { }" + MAIN);
        Checks.fault(5, i + "interface A extends I, @Main { }" + MAIN);
        Checks.fault(5, "class A implements @Object { }" + MAIN);
        Checks.fault(5, i + Checks.main("Object o = new @I(); return 1;"));
        Checks.fault(5, i + Checks.main("try { } catch (@I a) { } return 1;"));
        Checks.fault(5, i + "class A implements I, @I { }" + MAIN);
        Checks.fault(5, i + "interface J extends I, @I { }" + MAIN);
        Checks.fine(i + "interface J extends I { } class A implements I, J { } class B extends A implements I { }"
            + Checks.main("Object o = new I[1]; I x = o as I; return x is I[] ? 1 : 2;"));
        Checks.fine("class A extends Size { } class B extends Object { }" + MAIN);
    }

    private static void ring() {
        Checks.fault(6, "class @A extends A { }" + MAIN);
        Checks.fault(6, "interface @A extends A { }" + MAIN);
        Checks.fault(6, "class @A extends B { } class B extends C { } class C extends A { }" + MAIN);
        // Only what is above itself, not what is below such a one.
        Checks.fault(6, "class X extends A { } class @A extends B { } class B extends A { }" + MAIN);
        Checks.fault(6, "interface I extends J { } interface @J extends K, L { } interface K { } interface L extends J "
            + "{ }" + MAIN);
    }

    private static void signature() {
        String a = "class A { int m(int p) { return 1; } } ";
        Checks.fault(7, a + "class B extends A { int @m(boolean p) { return 1; } }" + MAIN);
        Checks.fault(7, a + "class B extends A { int @m() { return 1; } }" + MAIN);
        Checks.fault(7, a + "class B extends A { boolean @m(int p) { return true; } }" + MAIN);
        Checks.fault(7, a + "class B extends A { int @m(int[] p) { return 1; } }" + MAIN);
        Checks.fault(7, a + "class B extends A { void @m(int p) { } }" + MAIN);
        Checks.fault(7, a + "class B extends A { } class C extends B { int @m(int p, int q) { return 1; } }" + MAIN);
        Checks.fine(a + "class B extends A { int m(int other) { return 1; } }" + MAIN);
        // The result must be the same, not only fit.
        Checks.fault(7, "class A { Object m() { return null; } } class B extends A { A @m() { return null; } }" + MAIN);
        Checks.fault(7, "interface I { void m(); } interface J extends I { int @m(); }" + MAIN);
        Checks.fault(7, "interface I { void m(); } class A implements I { int @m() { return 1; } }" + MAIN);
        // From above, itself without one.
        String two = "interface I { void m(); } interface J { int m(); } ";
        Checks.fault(7, two + "interface @K extends I, J { }" + MAIN);
        Checks.fault(7, two + "class @A implements I, J { }" + MAIN);
        Checks.fault(7, two + "class A implements I, J { int @m() { return 1; } }" + MAIN);
        Checks.fault(7, "interface I { void m(); } class A { int m() { return 1; } } class @B extends A implements I { }"
            + MAIN);
        Checks.fault(7, "class @C extends B { } class B extends A { int m() { return 1; } } class A { void m() { } }"
            + MAIN);
        Checks.fine("interface I { void m(); } interface J { void m(); } interface K extends I, J { } "
            + "class A implements K { void m() { } }" + MAIN);
    }

    private static void missing() {
        String i = "interface I { void m(); } interface J extends I { } ";
        Checks.fault(8, i + "class @A implements I { }" + MAIN);
        Checks.fault(8, i + "class @A implements J { int m; }" + MAIN);
        Checks.fault(8, i + "class @B extends A { } class A implements J { }" + MAIN);
        Checks.fine(i + "class B extends A implements J { } class A { void m() { } }" + MAIN);
        // At one place 7 comes ahead.
        Checks.fault(7, i + "interface K { int m(); } class @A implements J, K { }" + MAIN);
    }

    private static void noMain() {
        Checks.fault(9, "@");
        Checks.fault(9, " // nothing \n @");
        Checks.fault(9, "class A { int main() { return 1; } } @");
        Checks.fault(9, "class Main { } @");
        Checks.fault(9, "class Main { boolean main() { return true; } }@");
        Checks.fault(9, "class Main { void main() { } }@");
        Checks.fault(9, "class Main { int main(int a) { return 1; } }@");
        Checks.fault(9, "class Main { int[] main() { return null; } }@");
        Checks.fault(9, "class Main { int main; int Main() { return 1; } }@");
        Checks.fault(9, "interface Main { int main(); }@");
        Checks.gives(4, "class Main extends A { } class A { int main() { return 4; } }");
    }

    private static void rounds() {
        // The lowest place of the first round that has a fault.
        Checks.fault(4, "class A extends A { @B b; int m() { } } class A { }");
        Checks.fault(3, "class A { int a, @a; C c; }");
        Checks.fault(6, "class @A extends A { int f; } class B extends A { int f; }");
        Checks.fault(3, "class A { int f; } class B extends A { int @f; } class @C".replace("@C", "C")
            + " implements I { } interface I { void m(); }");
        Checks.fault(8, "interface I { void m(); } class @C implements I { } class A { int f; } "
            + "class B extends A { int f; }");
        // Bodies are looked at behind all of these.
        Checks.fault(9, "class A { int m() { return x; } }@");
    }
}
