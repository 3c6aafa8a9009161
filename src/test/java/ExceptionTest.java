/** Promises 11 and 14: the exceptions that come up, and the ways out of tries. */
public final class ExceptionTest {
    private static final int NULL = 1, CAST = 2, ZERO = 3, INDEX = 4, STORE = 5, SIZE = 6;

    public static void main(String[] args) {
        comeUp();
        behindParts();
        catches();
        lasts();
        lastsReplace();
        loops();
        Checks.end();
    }

    private static void main(int thrown, String statements) {
        Checks.throwsOut(thrown, Checks.main(statements));
    }

    private static void comeUp() {
        main(ZERO, "return 1 / 0;");
        main(ZERO, "return 1 % (2 - 2);");
        main(NULL, "Main m = null; return m.main();");
        main(NULL, "int[] a = null; return a.length;");
        main(NULL, "int[] a = null; return a[0];");
        main(NULL, "int[] a = null; a[0] = 1; return 1;");
        main(NULL, "Object o = null; throw o;");
        Checks.throwsOut(NULL, "class Main { int f; int main() { Main m = null; return m.f; } }");
        Checks.throwsOut(NULL, "class Main { int f; int main() { Main m = null; m.f = 1; return 1; } }");
        main(INDEX, "return new int[3][3];");
        main(INDEX, "return new int[3][-1];");
        main(INDEX, "return new Object[3][3] == null ? 1 : 2;");
        main(INDEX, "new int[0][0] = 1; return 1;");
        main(STORE, "Object[] o = new Main[1]; o[0] = new Object(); return 1;");
        main(STORE, "Object[] o = new Main[1]; o[0] = new int[1]; return 1;");
        Checks.gives(1, Checks.main("Object[] o = new Main[1]; o[0] = null; o[0] = this; o = new Object[1]; "
            + "o[0] = new int[1]; return 1;"));
        main(CAST, "Object o = this; return (o as Zero) == null ? 1 : 2;");
        main(CAST, "Object o = this; return (o as int[]).length;");
        main(CAST, "Object o = new int[1]; throw o;");
        main(CAST, "Object o = new Object[1]; throw o;");
        Checks.gives(1, Checks.main("Object o = null; return (o as Zero) == null ? 1 : 2;"));
        main(SIZE, "return new int[-1].length;");
        main(SIZE, "return new Main[-2147483647 - 1].length;");
        Checks.gives(0, Checks.main("return new int[0].length;"));
        // Each of the six is one object; another one may be made.
        Checks.gives(1, Checks.main("Object a = null; Object b = null; try { print(1 / 0); } catch (Zero z) { a = z; } "
            + "try { print(1 % 0); } catch (Zero z) { b = z; } return a == b && a != new Zero() && a is Zero ? 1 : 0;"));
        main(ZERO, "throw new Zero();");
    }

    private static void behindParts() {
        String more = " int p(int n) { print(n); return n; } int f; int m(int a) { return a; } }";
        Checks.printed(Checks.throwsOut(NULL, "class Main { int main() { Main x = null; x.f = p(1); return 1; }" + more), 1);
        Checks.printed(Checks.throwsOut(NULL, "class Main { int main() { Main x = null; return x.m(p(1)); }" + more), 1);
        Checks.printed(Checks.throwsOut(NULL, "class Main { int main() { int[] x = null; return x[p(1)]; }" + more), 1);
        Checks.printed(Checks.throwsOut(NULL, "class Main { int main() { int[] x = null; x[p(1)] = p(2); return 1; }"
            + more), 1, 2);
        Checks.printed(Checks.throwsOut(INDEX, "class Main { int main() { new int[1][p(1)] = p(2); return 1; }" + more),
            1, 2);
        Checks.printed(Checks.throwsOut(ZERO, "class Main { int main() { return p(1) / p(0) + p(2); }" + more), 1, 0);
        // A PLACE's own parts are worked out ahead of the E.
        Checks.printed(Checks.throwsOut(NULL, "class Main { Main g; int main() { g.g.f = p(1); return 1; }" + more));
        Checks.printed(Checks.throwsOut(INDEX, "class Main { int main() { new Main[1][2].f = p(1); return 1; }" + more));
        // Null, Index, Store.
        main(NULL, "Object[] o = null; o[-1] = this; return 1;");
        main(INDEX, "Object[] o = new Zero[1]; o[1] = this; return 1;");
    }

    private static void catches() {
        Checks.gives(2, Checks.main("try { throw new Zero(); } catch (Null n) { return 1; } catch (Zero z) { return 2; } "
            + "catch (Object o) { return 3; }"));
        Checks.gives(3, Checks.main("try { throw this; } catch (Null n) { return 1; } catch (Zero z) { return 2; } "
            + "catch (Object o) { return o == this ? 3 : 4; }"));
        Checks.gives(1, "class E extends Zero { } " + Checks.main("try { throw new E(); } catch (Zero z) { return 1; } "
            + "catch (E e) { return 2; }"));
        Checks.gives(5, "class E extends Zero { } " + Checks.main("try { try { print(1 / 0); } catch (E e) { return 4; } } "
            + "catch (Zero z) { return 5; } return 6;"));
        // What comes up in a CATCH is not for the CATCHES of the same try.
        Checks.throwsOut(1, Checks.main("try { print(1 / 0); } catch (Zero z) { throw new Null(); } catch (Null n) { "
            + "return 2; } return 3;"));
        Checks.gives(2, Checks.main("try { try { print(1 / 0); } catch (Zero z) { throw z; } } catch (Zero y) { return 2; "
            + "} return 3;"));
        // Out of methods, to the call.
        Checks.gives(7, "class Main { int main() { try { return 1 + deep(3); } catch (Index i) { return 7; } } int deep(int "
            + "n) { if (n == 0) return new int[1][5]; return 2 * deep(n - 1); } }");
        JinjaTongue x = Checks.gives(9, "class Main { int main() { int s = 0; for (int i = 0; i < 3; i = i + 1) { try { s = "
            + "s + 10 / i; } catch (Zero z) { s = s - 6; } } return s; } }");
        Checks.due("count(10)", x.count(10), 1);
    }

    private static void lasts() {
        Checks.printed(Checks.gives(1, Checks.main("try { print(1); } finally { print(2); } return 1;")), 1, 2);
        Checks.printed(Checks.gives(1, Checks.main("try { print(1); } catch (Zero z) { print(8); } catch (Object o) { "
            + "print(9); } finally { print(2); } return 1;")), 1, 2);
        Checks.printed(Checks.gives(1, Checks.main("try { print(1 / 0); } catch (Zero z) { print(8); } catch (Object o) { "
            + "print(9); } finally { print(2); } return 1;")), 8, 2);
        Checks.printed(Checks.gives(1, Checks.main("try { print(1); } catch (Zero z) { print(8); } print(3); return 1;")),
            1, 3);
        Checks.printed(Checks.gives(1, Checks.main("try { return 1; } finally { print(2); }")), 2);
        Checks.printed(Checks.throwsOut(ZERO, Checks.main("try { return 1 / 0; } finally { print(2); }")), 2);
        Checks.printed(Checks.gives(4, Checks.main("try { return 1 / 0; } catch (Zero z) { print(3); return 4; } finally { "
            + "print(2); }")), 3, 2);
        Checks.printed(Checks.throwsOut(0, Checks.main("try { return 1 / 0; } catch (Zero z) { throw new Object(); } "
            + "finally { print(2); }")), 2);
        // The value was worked out ahead of LAST.
        Checks.gives(5, Checks.main("int x = 5; try { return x; } finally { x = 6; }"));
        Checks.printed(Checks.gives(1, Checks.main("try { try { return 1; } finally { print(1); } } finally { print(2); }")),
            1, 2);
        Checks.printed(Checks.throwsOut(ZERO, Checks.main("try { try { return 1 / 0; } finally { try { print(1); } finally { "
            + "print(2); } } } catch (Null n) { print(9); } finally { print(3); } return 2;")), 1, 2, 3);
        Checks.printed(Checks.throwsOut(ZERO, "class Main { int main() { try { return m(); } finally { print(2); } } int "
            + "m() { try { return 1 / 0; } finally { print(1); } } }"), 1, 2);
        Checks.printed(Checks.gives(3, "class Main { int main() { m(0); m(1); return 3; } void m(int a) { try { if (a == 0) "
            + "return; print(5); } finally { print(a); } } }"), 0, 5, 1);
        // A fault within LAST, and a try whole within it.
        Checks.printed(Checks.throwsOut(ZERO, Checks.main("try { throw new Null(); } finally { try { throw new Index(); } "
            + "catch (Index i) { print(1); } print(1 / 0); }")), 1);
        Checks.throwsOut(NULL, Checks.main("try { throw new Null(); } finally { try { throw new Index(); } catch (Index i) "
            + "{ } }"));
    }

    private static void lastsReplace() {
        Checks.gives(2, Checks.main("try { return 1; } finally { return 2; }"));
        Checks.gives(2, Checks.main("try { return 1 / 0; } finally { return 2; }"));
        Checks.throwsOut(NULL, Checks.main("try { return 1 / 0; } finally { throw new Null(); }"));
        Checks.throwsOut(NULL, Checks.main("try { return 1; } catch (Null n) { return 2; } finally { throw new Null(); }"));
        Checks.gives(3, Checks.main("while (true) { try { return 1 / 0; } finally { break; } } return 3;"));
        Checks.gives(3, Checks.main("int i = 0; while (i < 3) { try { i = i + 1; return 9; } finally { continue; } } "
            + "return i;"));
        Checks.gives(8, Checks.main("try { try { return 1 / 0; } finally { throw new Null(); } } catch (Null n) { return 8; "
            + "}"));
        Checks.gives(2, Checks.main("try { try { return 1; } finally { return 2; } } finally { print(1); }"));
    }

    private static void loops() {
        Checks.printed(Checks.gives(2, Checks.main("int i = 0; while (true) { try { i = i + 1; if (i == 1) continue; "
            + "break; } finally { print(i); } } return i;")), 1, 2);
        Checks.printed(Checks.gives(3, Checks.main("int i; for (i = 0; i < 3; i = i + 1) { try { try { if (i == 1) continue; "
            + "print(10 + i); } finally { print(20 + i); } } finally { print(30 + i); } } return i;")),
            10, 20, 30, 21, 31, 12, 22, 32);
        // A loop whole within the try does not leave it.
        Checks.printed(Checks.gives(1, Checks.main("try { while (true) { break; } print(1); for (int i = 0; i < 2; i = i + 1) "
            + "{ continue; } print(2); } finally { print(3); } return 1;")), 1, 2, 3);
        Checks.printed(Checks.gives(1, Checks.main("while (true) { try { while (true) { try { break; } finally { print(1); } "
            + "} break; } finally { print(2); } } return 1;")), 1, 2);
        Checks.printed(Checks.gives(1, Checks.main("while (true) { try { } finally { while (true) { break; } print(1); } "
            + "try { throw this; } catch (Main m) { break; } finally { print(2); } } return 1;")), 1, 2);
    }
}
