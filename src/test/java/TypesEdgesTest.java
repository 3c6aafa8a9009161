/** Chapter 3, FITTING and fault 11: every type at every place where one is asked for. */
public final class TypesEdgesTest {
    // B extends A, which implements I; J extends I.
    private static final String MORE = " interface I { int get(); } interface J extends I { } class A implements I { int f; int "
        + "get() { return 1; } } class B extends A { }";
    private static final String MEMBERS = " I i; J j; Object o; void v() { } ";
    private static final String[] TYPES = {"int", "boolean", "Object", "A", "B", "Main", "I", "J", "int[]", "boolean[]",
        "Object[]", "A[]", "B[]", "I[]", "J[]"};
    /** An E of each of the TYPES, and of two that are none of them: null and void. */
    private static final String[] VALUES = {"1", "true", "o", "new A()", "new B()", "this", "i", "j", "new int[1]",
        "new boolean[1]", "new Object[1]", "new A[1]", "new B[1]", "new I[1]", "new J[1]", "null", "v()"};
    private static final int NULL = 15;
    private static final int VOID = 16;
    /** For each of the VALUES, whether it fits each of the TYPES. */
    private static final String[] FITS = {
        "100000000000000",
        "010000000000000",
        "001000000000000",
        "001100100000000",
        "001110100000000",
        "001001000000000",
        "001000100000000",
        "001000110000000",
        "001000001000000",
        "001000000100000",
        "001000000010000",
        "001000000011010",
        "001000000011110",
        "001000000010010",
        "001000000010011",
        "001111111111111",
        "000000000000000"};

    public static void main(String[] args) {
        fitting();
        numbers();
        truths();
        eitherOfTwo();
        sides();
        whatChoiceGives();
        chains();
        checks();
        throwing();
        returning();
        Checks.end();
    }

    private static boolean fits(int value, int type) {
        return FITS[value].charAt(type) == '1';
    }

    private static String text(String statements, String members) {
        return "class Main {" + MEMBERS + members + " int main() { " + statements + " return 1; } }" + MORE;
    }

    /** The statements, in which the E is marked, are right, or not because of the E. */
    private static void judged(boolean right, String statements, String members) {
        if (right) {
            Checks.fine(text(statements, members).replace("@", ""));
        } else {
            Checks.fault(11, text(statements, members));
        }
    }

    private static void judged(boolean right, String statements) {
        judged(right, statements, "");
    }

    /** "= , LOCALS, arguments, return: what fits the type there". */
    private static void fitting() {
        for (int value = 0; value < VALUES.length; value++) {
            for (int type = 0; type < TYPES.length; type++) {
                String e = "@" + VALUES[value];
                String t = TYPES[type];
                boolean right = fits(value, type);
                judged(right, t + " x = " + e + ";");
                judged(right, t + " x; x = " + e + ";");
                judged(right, "for (" + t + " x = " + e + "; ; ) ;");
                judged(right, "x = " + e + ";", t + " x;");
                judged(right, "this.x = " + e + ";", t + " x;");
                judged(right, "m(" + e + ");", "void m(" + t + " x) { }");
                judged(right, "this.m(1, " + e + ");", "void m(int y, " + t + " x) { }");
                judged(right, "", t + " m() { return " + e + "; }");
                if (!t.endsWith("]")) {
                    judged(right, "new " + t + "[1][0] = " + e + ";");
                }
            }
        }
    }

    /** "- ~, operands of + - * / % << >> >>> < <= > >=, indexes, sizes, print: int". */
    private static void numbers() {
        for (int value = 0; value < VALUES.length; value++) {
            boolean right = value == 0;
            String e = "@" + VALUES[value];
            judged(right, "int x = -" + e + ";");
            judged(right, "int x = ~" + e + ";");
            for (String sign : new String[] {"+", "-", "*", "/", "%", "<<", ">>", ">>>"}) {
                judged(right, "int x = 1 " + sign + " " + e + ";");
                judged(right, "int x = " + e + " " + sign + " 1;");
            }
            for (String sign : new String[] {"<", "<=", ">", ">="}) {
                judged(right, "boolean x = 1 " + sign + " " + e + ";");
                judged(right, "boolean x = " + e + " " + sign + " 1;");
            }
            judged(right, "int x = new int[1][" + e + "];");
            judged(right, "new int[1][" + e + "] = 1;");
            judged(right, "int[] x = new int[" + e + "];");
            judged(right, "A[] x = new A[" + e + "];");
            judged(right, "print(" + e + ");");
        }
    }

    /** "!, operands of && ||, conditions (ahead of ?, too): boolean". */
    private static void truths() {
        for (int value = 0; value < VALUES.length; value++) {
            boolean right = value == 1;
            String e = "@" + VALUES[value];
            judged(right, "boolean x = !" + e + ";");
            judged(right, "boolean x = " + e + " && true;");
            judged(right, "boolean x = true && " + e + ";");
            judged(right, "boolean x = " + e + " || true;");
            judged(right, "boolean x = false || " + e + ";");
            judged(right, "if (" + e + ") ;");
            judged(right, "while (" + e + ") ;");
            judged(right, "for (; " + e + "; ) ;");
            judged(right, "int x = " + e + " ? 1 : 2;");
        }
    }

    /** "of & | ^ the left one int or boolean, the right one the same". */
    private static void eitherOfTwo() {
        for (String sign : new String[] {"&", "|", "^"}) {
            for (int value = 0; value < VALUES.length; value++) {
                String e = "@" + VALUES[value];
                judged(value == 0, "int x = 1 " + sign + " " + e + ";");
                judged(value == 1, "boolean x = true " + sign + " " + e + ";");
                judged(value <= 1, (value == 1 ? "boolean" : "int") + " x = " + e + " " + sign + " " + VALUES[value] + ";");
            }
            judged(false, "boolean x = @1 " + sign + " 1;");
            judged(false, "int x = @true " + sign + " true;");
        }
    }

    /** The type of which both are if one fits the other one; NONE if they may not stand at one sign. */
    private static int common(int left, int right) {
        if (left == VOID || right == VOID) {
            return -1;
        }
        if (left == right) {
            return left;
        }
        if (left < 2 || right < 2) {
            return -1;
        }
        if (right != NULL && fits(left, right)) {
            return right;
        }
        return left != NULL && fits(right, left) ? left : -1;
    }

    /** "At the sign == != ?: both sides int, both boolean, or both REFERENCES of which one fits the other one". */
    private static void sides() {
        for (int left = 0; left < VALUES.length; left++) {
            for (int right = 0; right < VALUES.length; right++) {
                boolean fine = common(left, right) >= 0;
                judged(fine, "boolean x = " + VALUES[left] + " @== " + VALUES[right] + ";");
                judged(fine, "boolean x = " + VALUES[left] + " @!= " + VALUES[right] + ";");
                if (fine) {
                    boolean isReference = left >= 2;
                    judged(true, (left == 0 ? "int" : isReference ? "Object" : "boolean") + " x = true ? " + VALUES[left] + " : "
                        + VALUES[right] + ";");
                } else {
                    judged(false, "Object x = true @? " + VALUES[left] + " : " + VALUES[right] + ";");
                }
            }
        }
    }

    /** "what ? gives is then of the type that the other one fits; of two alike that". */
    private static void whatChoiceGives() {
        for (int left = 0; left < VALUES.length; left++) {
            for (int right = 0; right < VALUES.length; right++) {
                int given = common(left, right);
                for (int type = 0; given >= 0 && type < TYPES.length; type++) {
                    judged(fits(given, type), TYPES[type] + " x = @true ? " + VALUES[left] + " : " + VALUES[right] + ";");
                }
            }
        }
    }

    private static boolean isClass(int value) {
        return value >= 2 && value <= 5;
    }

    private static boolean isInterface(int value) {
        return value == 6 || value == 7;
    }

    private static boolean isArray(int value) {
        return value >= 8 && value <= 14;
    }

    /** "ahead of . NAME a class, of . NAME ( a class or interface, of . length and [ an array". */
    private static void chains() {
        for (int value = 0; value < VALUES.length; value++) {
            String e = "@" + VALUES[value];
            // Where a class stands rightly, the field or method is not known.
            String known = VALUES[value] + ".@none";
            if (isClass(value)) {
                Checks.fault(10, text("int x = " + known + ";", ""));
                Checks.fault(10, text(known + " = 1;", ""));
            } else {
                judged(false, "int x = " + e + ".none;");
                judged(false, e + ".none = 1;");
            }
            if (isClass(value) || isInterface(value)) {
                Checks.fault(10, text("int x = " + known + "();", ""));
                Checks.fault(10, text(known + "();", ""));
            } else {
                judged(false, "int x = " + e + ".none();");
                judged(false, e + ".none();");
            }
            judged(isArray(value), "int x = " + e + ".length;");
            judged(isArray(value), "boolean x = " + e + "[0] == " + VALUES[value] + "[0];");
            if (!isArray(value)) {
                judged(false, e + "[0] = 1;");
            }
        }
        Checks.gives(3, text("i = new A(); int x = i.get() + new B().get() + new A().get(); if (x == 3) return x;", ""));
    }

    /** "is, as: a REFERENCE (its TYPE, too: at it)". */
    private static void checks() {
        for (int value = 0; value < VALUES.length; value++) {
            boolean right = value >= 2 && value != VOID;
            judged(right, "boolean x = @" + VALUES[value] + " is A;");
            judged(right, "A x = @" + VALUES[value] + " as A;");
        }
        for (int type = 0; type < TYPES.length; type++) {
            boolean right = type >= 2;
            judged(right, "boolean x = o is @" + TYPES[type] + ";");
            judged(right, "Object x = o as @" + TYPES[type] + ";");
            // as gives its TYPE.
            for (int wanted = 0; right && wanted < TYPES.length; wanted++) {
                judged(fits(type, wanted), TYPES[wanted] + " x = @null as " + TYPES[type] + ";");
            }
        }
        judged(false, "boolean x = @1 is int;");
        judged(false, "int x = @true as boolean;");
    }

    /** "throw: a class (no interface, no null)". */
    private static void throwing() {
        for (int value = 0; value < VALUES.length; value++) {
            judged(isClass(value), "throw @" + VALUES[value] + ";");
            judged(isClass(value), "throw @(" + VALUES[value] + ");");
        }
    }

    /** "return without E in a method with a result: at return; return E in one without: at E." */
    private static void returning() {
        for (int type = 0; type < TYPES.length; type++) {
            judged(false, "", TYPES[type] + " m() { @return; }");
        }
        for (int value = 0; value < VALUES.length; value++) {
            judged(false, "", "void m() { return @" + VALUES[value] + "; }");
            judged(false, "", "void m() { return @(" + VALUES[value] + "); }");
        }
        judged(true, "", "void m() { return; }");
        judged(true, "", "void m() { }");
    }
}
