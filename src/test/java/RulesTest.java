/** Promises 5 to 8: type, above, letter, called. */
public final class RulesTest {
    // 7 I, 8 J, 9 A, 10 Main, 11 B, 12 E
    private static final String TEXT = "interface I { int p(); } interface J extends I { void q(int a); int p(); } "
        + "class A implements I { int f, g; Main[] h; int p() { return 1; } int own() { return 2; } } "
        + "class Main { int main() { return 3; } } "
        + "class B extends A implements J { boolean k; void q(int a) { } int p() { return 4; } } class E extends Zero { }";

    public static void main(String[] args) {
        JinjaTongue x = Checks.program(TEXT);
        types(x);
        aboves(x);
        letters(x);
        calledOnes(x);
        Checks.end();
    }

    private static void row(JinjaTongue x, int k, int... answers) {
        for (int what = 0; what < answers.length; what++) {
            Checks.due("type(" + k + ", " + what + ")", x.type(k, what), answers[what]);
        }
        Checks.due("type(" + k + ", -1)", x.type(k, -1), -1);
        Checks.due("type(" + k + ", 6)", x.type(k, 6), -1);
    }

    private static void types(JinjaTongue x) {
        row(x, 0, -1, 0, 0, 0, 0, 1);
        for (int k = 1; k <= 6; k++) {
            row(x, k, 0, 0, 0, 0, 1, 1);
        }
        row(x, 7, -1, 0, 1, 1, 1, -1);
        row(x, 8, -1, 0, 2, 1, 2, -1);
        row(x, 9, 0, 3, 2, 0, 2, 4);
        row(x, 10, 0, 0, 1, 0, 1, 1);
        row(x, 11, 9, 4, 3, 0, 4, 5);
        row(x, 12, 3, 0, 0, 0, 2, 1);
        row(x, 13, -1, -1, -1, -1, -1, -1);
        row(x, -1, -1, -1, -1, -1, -1, -1);
        row(x, 2147483647, -1, -1, -1, -1, -1, -1);
        Checks.due("count(3)", x.count(3), 13);
        Checks.due("count(4)", x.count(4), 5);
    }

    private static void aboves(JinjaTongue x) {
        String[] rows = {
            "1111111111111", "0100000000000", "0010000000000", "0001000000001", "0000100000000", "0000010000000",
            "0000001000000", "0000000111010", "0000000010010", "0000000001010", "0000000000100", "0000000000010",
            "0000000000001"};
        for (int k = 0; k < rows.length; k++) {
            for (int lower = 0; lower < rows.length; lower++) {
                Checks.due("above(" + k + ", " + lower + ")", x.above(k, lower), rows[k].charAt(lower) - '0');
            }
            Checks.due("above(" + k + ", 13)", x.above(k, 13), -1);
            Checks.due("above(-1, " + k + ")", x.above(-1, k), -1);
        }
    }

    private static void letters(JinjaTongue x) {
        String[] names = {"Object", "Null", "Cast", "Zero", "Index", "Store", "Size", "I", "J", "A", "Main", "B", "E"};
        for (int k = 0; k < names.length; k++) {
            for (int i = 0; i < names[k].length(); i++) {
                Checks.due("letter(" + k + ", " + i + ")", x.letter(k, i), names[k].charAt(i));
            }
            Checks.due("letter(" + k + ", -1)", x.letter(k, -1), -1);
            Checks.due("letter(" + k + ", its length)", x.letter(k, names[k].length()), -1);
        }
        Checks.due("letter(13, 0)", x.letter(13, 0), -1);
        Checks.due("letter(-1, 0)", x.letter(-1, 0), -1);
        // The name stays though the tape is used again.
        Checks.feed(x, "################################################################");
        Checks.due("letter(10, 0)", x.letter(10, 0), 'M');
    }

    private static void calledOnes(JinjaTongue x) {
        // Methods: 0 A.p, 1 A.own, 2 Main.main, 3 B.q, 4 B.p
        int[][] due = new int[13][];
        for (int k = 0; k < 13; k++) {
            due[k] = new int[] {-1, -1, -1, -1, -1};
        }
        due[9] = new int[] {0, 1, -1, -1, 0};
        due[10] = new int[] {-1, -1, 2, -1, -1};
        due[11] = new int[] {4, 1, -1, 3, 4};
        for (int k = 0; k < 13; k++) {
            for (int m = 0; m < 5; m++) {
                Checks.due("called(" + k + ", " + m + ")", x.called(k, m), due[k][m]);
            }
            Checks.due("called(" + k + ", 5)", x.called(k, 5), -1);
            Checks.due("called(" + k + ", -1)", x.called(k, -1), -1);
        }
        Checks.due("called(13, 0)", x.called(13, 0), -1);
        Checks.due("called(-1, 0)", x.called(-1, 0), -1);
    }
}
