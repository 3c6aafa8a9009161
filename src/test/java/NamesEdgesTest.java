/** Chapter 2, NAMES: each fault at its place and in its round, with the nearest text that has none. */
public final class NamesEdgesTest {
    private static final String MAIN = " class Main { int main() { return 1; } }";
    private static final String[] BUILT_IN = {"Object", "Null", "Cast", "Zero", "Index", "Store", "Size"};

    public static void main(String[] args) {
        builtIn();
        twice();
        unknown();
        kind();
        ring();
        fieldsFromAbove();
        signatureOwn();
        signatureFromAbove();
        missing();
        noMain();
        rounds();
        lowestPlace();
        longChain();
        Checks.end();
    }

    /** "built in, without fields and methods; all but Object extend it". */
    private static void builtIn() {
        for (int k = 0; k < BUILT_IN.length; k++) {
            String name = BUILT_IN[k];
            Checks.fault(3, "class @" + name + " { }" + MAIN);
            Checks.fault(3, "interface @" + name + " { }" + MAIN);
            Checks.fault(5, "interface I extends @" + name + " { }" + MAIN);
            Checks.fault(5, "class A implements @" + name + " { }" + MAIN);
            JinjaTongue x = Checks.gives(1, "class A extends " + name + " { int f; } "
                + Checks.main("Object o = new " + name + "(); o = new " + name + "[1]; try { throw new A(); } catch (" + name
                + " c) { return c is " + name + " ? 1 : 2; }"));
            Checks.due("type(7, 0)", x.type(7, 0), k);
            Checks.due("type(7, 4)", x.type(7, 4), k == 0 ? 1 : 2);
            // Null and Size are names like others where no type stands.
            Checks.gives(3, Checks.main("int " + name + " = 3; return " + name + ";"));
            Checks.gives(4, "class Main { int " + name + "; int " + name + "() { return 4; } int main() { return " + name
                + "() + " + name + "; } }");
            Checks.fault(10, Checks.main("return new " + name + "().@x;"));
            Checks.fault(10, Checks.main("return new " + name + "().@x();"));
        }
    }

    /** "3 TWICE: the NAME of a DECL that an earlier one .. has; of a field ..; of a method ..". */
    private static void twice() {
        for (String first : new String[] {"class", "interface"}) {
            for (String second : new String[] {"class", "interface"}) {
                Checks.fault(3, first + " A { } " + second + " @A { }" + MAIN);
                Checks.fault(3, first + " A { } class B { } " + second + " @A { } " + second + " A { }" + MAIN);
                Checks.fine(first + " A { } " + second + " a { } " + second + " AA { }" + MAIN);
            }
        }
        Checks.fault(3, MAIN + " class @Main { }");
        Checks.fault(3, "class A { int a; int b; int c; int @b; int a; }" + MAIN);
        Checks.fault(3, "class A { int a, b, c, @c, b; }" + MAIN);
        Checks.fault(3, "class A { int a; void m() { } A @a; }" + MAIN);
        Checks.fault(3, "class A { void a() { } void b() { } int @b(int c) { return 1; } }" + MAIN);
        Checks.fault(3, "class A { void b() { } void a() { } void @a() { } }" + MAIN);
        Checks.fault(3, "interface A { void b(); void a(); void @a(); }" + MAIN);
        // A field and a method, two classes, a PARAMETER and a field may have one NAME.
        Checks.fine("class A { int a; void a(int a) { a = 1; } } class B { int a; void a() { } } interface I { void a(); }"
            + MAIN);
    }

    /** "4 UNKNOWN: a NAME where a type stands (TYPES, behind extends, implements, new, catch) that is none's." */
    private static void unknown() {
        String[] texts = {"class A { %X a; }", "class A { int b; %X[] a; }", "class A { %X a() { return null; } }",
            "class A { %X[] a() { return null; } }", "class A { void a(%X b) { } }", "class A { void a(int c, %X[] b) { } }",
            "class A extends %X { }", "class A implements %X { }", "class A extends Object implements %X { }",
            "interface A { %X a(); }", "interface A { void a(%X[] b); }", "class A { void a() { %X b; } }",
            "class A { void a() { %X[] b; } }", "class A { void a() { for (%X b = null; ; ) ; } }",
            "class A { void a() { Object b = null as %X; } }", "class A { void a() { boolean b = null is %X[]; } }",
            "class A { void a() { Object b = new %X[1]; } }"};
        for (String text : texts) {
            Checks.fault(4, text.replace("%", "@") + MAIN);
        }
        Checks.fault(4, "class A { void a() { Object b = new @X(); } }" + MAIN);
        Checks.fault(4, "class A { void a() { try { } catch (@X b) { } } }" + MAIN);
        Checks.fault(4, "interface A extends @X { }" + MAIN);
        // A class that comes later is one's; a variable, field or method of that NAME is none.
        for (String text : texts) {
            String kind = text.contains("implements") ? " interface" : " class";
            Checks.fine(text.replace("%", "") + kind + " X { }" + MAIN);
        }
        Checks.fault(4, "class A { int x; void x() { int x; @x y; } }" + MAIN);
        // A NAME of an E is not where a type stands.
        Checks.fault(10, Checks.main("return @X.f;"));
        Checks.fault(4, Checks.main("return x.f; } void m() { @X y;"));
    }

    /** "5 KIND". */
    private static void kind() {
        String two = "interface I { } interface J { } class C { } ";
        Checks.fault(5, two + "class A extends @I { }" + MAIN);
        Checks.fault(5, two + "interface K extends @C { }" + MAIN);
        Checks.fault(5, two + "interface K extends I, @C, J { }" + MAIN);
        Checks.fault(5, two + "class A implements @C { }" + MAIN);
        Checks.fault(5, two + "class A extends C implements I, @C { }" + MAIN);
        Checks.fault(5, two + "class A { void m() { Object o = new @I(); } }" + MAIN);
        Checks.fault(5, two + "class A { void m() { try { } catch (C c) { } catch (@I i) { } } }" + MAIN);
        Checks.fine(two + "class A { void m() { Object o = new I[1]; o = new C(); I i = o as I; boolean b = o is I[]; "
            + "try { } catch (C c) { } } }" + MAIN);
        // The same one a second time, wherever it stands among them.
        for (String head : new String[] {"class A implements ", "interface A extends "}) {
            Checks.fault(5, two + head + "I, @I { }" + MAIN);
            Checks.fault(5, two + head + "I, J, @I { }" + MAIN);
            Checks.fault(5, two + head + "I, J, @J { }" + MAIN);
            Checks.fault(5, two + head + "J, I, @I, J { }" + MAIN);
            Checks.fault(5, two + "interface K { } interface L { } " + head + "I, J, K, L, @K { }" + MAIN);
            Checks.fine(two + "interface K { } interface L { } " + head + "I, J, K, L { }" + MAIN);
        }
        // Behind one extends or implements: what is above already may be named again.
        Checks.fine(two + "interface K extends I { } interface L extends I, K { } class A implements I, K, L { } "
            + "class B extends A implements I, K { }" + MAIN);
        Checks.fault(4, two + "class A implements I, @X, X { }" + MAIN);
    }

    /** "6 RING: one that is above itself (at its NAME)." */
    private static void ring() {
        Checks.fault(6, "class @A extends A { }" + MAIN);
        Checks.fault(6, "interface @I extends I { }" + MAIN);
        Checks.fault(6, "class @A extends B { } class B extends A { }" + MAIN);
        Checks.fault(6, "interface I { } interface @J extends I, J { }" + MAIN);
        Checks.fault(6, "interface @I extends K, J { } interface J extends I { } interface K { }" + MAIN);
        Checks.fault(6, "class C extends A { } class D extends C { } class @B extends A { } class A extends B { }" + MAIN);
        Checks.fault(6, "class C implements I { } interface @I extends J { } interface J extends I { }" + MAIN);
        Checks.fault(6, "class @Main extends Main { int main() { return 1; } }");
        StringBuilder ring = new StringBuilder();
        StringBuilder row = new StringBuilder("class C0 { } ");
        for (int i = 0; i < 29; i++) {
            ring.append("class ").append(i == 0 ? "@" : "").append("C").append(i).append(" extends C").append((i + 1) % 29)
                .append(" { } ");
            if (i > 0) {
                row.append("class C").append(i).append(" extends C").append(i - 1).append(" { } ");
            }
        }
        Checks.fault(6, ring + MAIN);
        JinjaTongue x = Checks.program(row + MAIN);
        Checks.due("type(35, 4)", x.type(35, 4), 29);
        Checks.due("above(7, 35)", x.above(7, 35), 1);
        Checks.due("above(35, 7)", x.above(35, 7), 0);
    }

    /** "Third round: 3 a field that a class above has (at its NAME)". */
    private static void fieldsFromAbove() {
        Checks.fault(3, "class A { int a; } class B extends A { int b, @a; }" + MAIN);
        Checks.fault(3, "class A { int a; } class B extends A { } class C extends B { boolean @a; }" + MAIN);
        Checks.fault(3, "class C extends B { int @a; } class B extends A { } class A { int b; int a; }" + MAIN);
        Checks.fault(3, "class A { int a; } class B extends A { int @a, a2; } class C extends B { int a2; }" + MAIN);
        // A field of a class that is beside or below it, or a method, does not matter.
        Checks.fine("class A { int a; } class B extends A { int b; void a() { } } class C extends A { int b; } "
            + "interface I { void b(); } class D extends A implements I { int b2; void b() { } }"
            + MAIN);
    }

    /** "7 SIGNATURE: a method that has the NAME of one of what is above its DECL, but other types .., or another result". */
    private static void signatureOwn() {
        String[] same = {"int m(int a, A b)", "A m()", "void m(A[] a)", "boolean[] m(boolean a)"};
        String[] result = {"boolean m(int a, A b)", "Object m()", "int m(A[] a)", "boolean m(boolean a)"};
        String[] types = {"int m(int a, Object b)", "A m(int a)", "void m(A a)", "boolean[] m(boolean a, int b)"};
        String[] order = {"int m(A b, int a)", "B m()", "void m(B[] a)", "boolean[] m()"};
        for (int i = 0; i < same.length; i++) {
            String up = " class A { " + same[i] + " { while (true) ; } } ";
            String told = " class A { } interface I { " + same[i] + "; } ";
            String named = same[i].replace(" a", " x").replace(" b", " y");
            Checks.fine(up + "class B extends A { " + named + " { while (true) ; } }" + MAIN);
            Checks.fine(told + "class B implements I { " + named + " { while (true) ; } }" + MAIN);
            Checks.fine(told + "class B { } interface J extends I { " + named + "; }" + MAIN);
            for (String other : new String[] {result[i], types[i], order[i]}) {
                String wrong = other.replace("m(", "@m(");
                Checks.fault(7, up + "class B extends A { " + wrong + " { while (true) ; } }" + MAIN);
                Checks.fault(7, up + "class X extends A { } class B extends X { int z; " + wrong + " { } }" + MAIN);
                Checks.fault(7, told + "class B implements I { " + wrong + " { while (true) ; } }" + MAIN);
                Checks.fault(7, told + "interface X extends I { } class B implements X { " + wrong + " { } }" + MAIN);
                Checks.fault(7, told + "class B { } interface J extends I { " + wrong + "; }" + MAIN);
                // Beside it nothing is asked.
                Checks.fine(up + "class B { " + other + " { while (true) ; } }" + MAIN);
            }
        }
    }

    /** "of methods of one NAME that a DECL has from above (itself without one) two differ so (at the DECL's NAME)". */
    private static void signatureFromAbove() {
        String three = "interface I { void m(); } interface J { void m(int a); } interface K { int m(); } ";
        Checks.fault(7, three + "interface @L extends I, J { }" + MAIN);
        Checks.fault(7, three + "interface @L extends I, K { }" + MAIN);
        Checks.fault(7, three + "class @A implements J, K { }" + MAIN);
        Checks.fault(7, three + "interface X extends I { } interface @L extends X, J { }" + MAIN);
        Checks.fault(7, three + "class A { void m() { } } class @B extends A implements J { }" + MAIN);
        Checks.fault(7, three + "class A { void m() { } } class B extends A { } class @C extends B implements K { }" + MAIN);
        // With one of its own the fault is told there.
        Checks.fault(7, three + "interface L extends I, J { void @m(); }" + MAIN);
        Checks.fault(7, three + "class B extends A implements J { void @m() { } } class A { void m() { } }" + MAIN);
        Checks.fine("interface I { void m(int a); } interface J { void m(int b); } interface K extends I, J { } "
            + "class A { void m(int c) { } } class B extends A implements K { } class C extends B implements I, J { }" + MAIN);
    }

    /** "8 MISSING: a class that has no method of a NAME that an interface above it has (at the class's NAME)." */
    private static void missing() {
        String up = "interface I { void m(); } interface J extends I { void n(); } ";
        Checks.fault(8, up + "class @A implements J { }" + MAIN);
        Checks.fault(8, up + "class @A implements J { void m() { } }" + MAIN);
        Checks.fault(8, up + "class @A implements J { void n() { } }" + MAIN);
        Checks.fault(8, up + "class @A implements J { int m, n; }" + MAIN);
        Checks.fault(8, up + "class @A extends B { void n() { } } class B implements J { void n() { } }" + MAIN);
        Checks.fault(8, up + "class @B implements I { } class A extends B { void m() { } }" + MAIN);
        Checks.fine(up + "class A implements J { void m() { } void n() { } } class B extends A implements I { }" + MAIN);
        Checks.fine(up + "class A { void m() { } } class B extends A implements J { void n() { } }" + MAIN);
        Checks.fine(up + "interface K extends J { } interface L extends K, I { }" + MAIN);
        // 7 and 8 at one place: the least.
        Checks.fault(7, up + "interface K { int m(); } class @A implements I, K { }" + MAIN);
        Checks.fault(7, up + "interface K { int m(); } class @A implements J, K { void n() { } }" + MAIN);
    }

    /** "9 there is no class Main with a method int main ( ), its own or from above (at the text's length)." */
    private static void noMain() {
        String[] none = {"", "   ", "// class Main", "class A { }", "class Main { }", "class main { int main() { return 1; } }",
            "class Main { int Main() { return 1; } }", "class Main { int main; }", "class Main { void main() { } }",
            "class Main { boolean main() { return true; } }", "class Main { Main main() { return null; } }",
            "class Main { int[] main() { return null; } }", "class Main { int main(int a) { return 1; } }",
            "interface Main { int main(); }", "class A extends Main { int main() { return 1; } } class Main { }",
            "class Main extends A { } class A { void main() { } }", "class Main { int m() { return x; } }"};
        for (String text : none) {
            Checks.fault(9, text + "@");
            Checks.fault(9, text + " \n@");
        }
        Checks.gives(7, "class Main { int main() { return 7; } }");
        Checks.gives(7, "class Main extends B { } class B extends A { } class A { int main() { return 7; } }");
        Checks.gives(8, "class Main extends A { int main() { return 8; } } class A { int main() { return 7; } }");
        Checks.gives(9, "interface I { int main(); } class Main implements I { int main() { return 9; } }");
    }

    /** "in rounds; .. a later round only if there is none." */
    private static void rounds() {
        String first = " class Q { } class @Q { }";
        String second = " class @R extends R { }";
        String third = " class S { int a; } class T extends S { int @a; }";
        String late = " class U { void m() { @x = 1; } }";
        Checks.fault(3, late.replace("@", "") + third.replace("@", "") + second.replace("@", "") + first);
        Checks.fault(6, late.replace("@", "") + third.replace("@", "") + second);
        Checks.fault(3, late.replace("@", "") + third);
        Checks.fault(9, late.replace("@", "") + "@");
        Checks.fault(10, late + MAIN);
        // A fault of the text is ahead of all rounds.
        Checks.fault(1, first.replace("@", "") + second.replace("@", "") + third.replace("@", "") + " @x");
        Checks.fault(2, first.replace("@", "") + " class A { void m(" + "int a, ".repeat(8) + "@int a) { } }");
        // Each fault of the first round ahead of a ring, each of the third behind it.
        String ring = "class R extends R { } ";
        Checks.fault(4, ring + "class A { @X x; }" + MAIN);
        Checks.fault(5, ring + "interface I { } class A extends @I { }" + MAIN);
        Checks.fault(3, ring + "class A { int a, @a; }" + MAIN);
        Checks.fault(6, "class A { int a; } class B extends A { int a; } class @R extends R { }" + MAIN);
        Checks.fault(6, "class A { int m() { return 1; } } class B extends A { void m() { } } class @R extends R { }" + MAIN);
        Checks.fault(6, "interface I { void m(); } class A implements I { } class @R extends R { }" + MAIN);
        Checks.fault(6, "class @R extends R { }");
    }

    /** "of one round the one of the lowest place". */
    private static void lowestPlace() {
        Checks.fault(3, "class A { int a, @a; X x; } interface I extends I, I { } class A { }" + MAIN);
        Checks.fault(4, "class A { @X x; int a, a; } interface I extends I, I { } class A { }" + MAIN);
        Checks.fault(5, "interface I extends I, @I { } class A { X x; int a, a; }" + MAIN);
        Checks.fault(4, "class A { void m() { @X x; } int a, a; }" + MAIN);
        Checks.fault(3, "class A { int a, @a; void m() { X x; } }" + MAIN);
        Checks.fault(3, "class A { int a; } class B extends A { int @a; void m() { } } class C extends B { int m() { return 1; }"
            + " } interface I { void n(); } class D implements I { }");
        Checks.fault(7, "class A { void m() { } } class B extends A { int @m() { return 1; } int a; } class C extends B { int a;"
            + " } interface I { void n(); } class D implements I { }");
        Checks.fault(8, "interface I { void n(); } class @D implements I { } class A { int a; void m() { } } class B extends A "
            + "{ int a; int m() { return 1; } }");
        Checks.fault(6, "class A { } class @B extends C { } class C extends B { } interface I extends I { }" + MAIN);
    }

    /** Thirty classes, each of which extends the next one, with twenty fields each. */
    private static void longChain() {
        StringBuilder text = new StringBuilder();
        for (int i = 0; i < 30; i++) {
            text.append("class ").append(i == 0 ? "Main" : "C" + i).append(i == 29 ? "{int " : " extends C" + (i + 1) + "{int ");
            for (int j = 0; j < 20; j++) {
                text.append(j == 0 ? "" : ",").append((char) ('a' + j)).append(i);
            }
            text.append(";").append(i == 29 ? "int main(){t29=7;return t29;}" : "").append("}");
        }
        JinjaTongue x = Checks.program(text.toString());
        Checks.due("type(7, 1)", x.type(7, 1), 600);
        Checks.due("type(7, 4)", x.type(7, 4), 30);
        Checks.due("type(7, 5)", x.type(7, 5), 601);
        Checks.due("type(36, 5)", x.type(36, 5), 21);
        Checks.due("called(7, 0)", x.called(7, 0), 0);
        Checks.due("run(100, 601)", Checks.run(x, 100, 601), 0);
        Checks.due("result", x.result(), 7);
        Checks.due("count(9)", x.count(9), 601);
        Checks.due("run(100, 600)", Checks.run(x, 100, 600), 3);
        Checks.due("result", x.result(), 0);
    }
}
