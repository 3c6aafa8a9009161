import java.nio.charset.StandardCharsets;
import java.util.Arrays;

/** What the tests have in common: texts for the tape, and answers that are due. */
final class Checks {
    private static int done = 0;
    private static int wrong = 0;

    private Checks() {
    }

    static void due(String call, long got, long want) {
        done++;
        if (got != want) {
            wrong++;
            System.out.println(call + " answered " + got + ", due is " + want);
        }
    }

    /** Ends the test: with exit code 1 if an answer was wrong. */
    static void end() {
        System.out.println(done + " answers, " + wrong + " wrong");
        if (wrong != 0) {
            System.exit(1);
        }
    }

    /** Puts the text, of bytes 0 to 255, behind the tape. */
    static void feed(JinjaTongue x, String text) {
        byte[] bytes = text.getBytes(StandardCharsets.ISO_8859_1);
        int fed = (bytes.length + 19) / 20 * 20;
        byte[] padded = Arrays.copyOf(bytes, fed);
        for (int at = 0; at < fed; at += 20) {
            x.feed(word(padded, at), word(padded, at + 4), word(padded, at + 8), word(padded, at + 12),
                word(padded, at + 16));
        }
        x.back(fed - bytes.length);
    }

    private static int word(byte[] bytes, int at) {
        return (bytes[at] & 255) << 24 | (bytes[at + 1] & 255) << 16 | (bytes[at + 2] & 255) << 8 | bytes[at + 3] & 255;
    }

    static int read(JinjaTongue x, String text) {
        feed(x, text);
        return x.read();
    }

    /** A new object with the text as its program. */
    static JinjaTongue program(String text) {
        JinjaTongue x = new JinjaTongue();
        due("read() of " + text, read(x, text), 0);
        return x;
    }

    static void fine(String text) {
        program(text);
    }

    /** The text has this fault, where the first @ stands, which is not of the text. */
    static void fault(int number, String marked) {
        int place = marked.indexOf('@');
        String text = marked.substring(0, place) + marked.substring(place + 1);
        int got = read(new JinjaTongue(), text);
        String told = got + " (" + got % 16 + " at " + got / 16 + ")";
        due("read() of " + marked + ": " + told, got, number + 16L * place);
    }

    /** A class Main whose main has these statements. */
    static String main(String statements) {
        return "class Main { int main() { " + statements + " } }";
    }

    /** The run's end: 0 to 4; 101 for an IllegalArgumentException, 102 for an IllegalStateException. */
    static int run(JinjaTongue x, int fuel, int cells) {
        try {
            return x.run(fuel, cells);
        } catch (IllegalArgumentException e) {
            return 101;
        } catch (IllegalStateException e) {
            return 102;
        }
    }

    /** Runs the text with all there may be: it ends and gives this. */
    static JinjaTongue gives(int result, String text) {
        JinjaTongue x = program(text);
        due("run of " + text, run(x, 20000, 3000), 0);
        due("result of " + text, x.result(), result);
        due("refusals of " + text, x.refusals(), 0);
        return x;
    }

    /** Runs the text with all there may be: an object of this class is thrown. */
    static JinjaTongue throwsOut(int thrown, String text) {
        JinjaTongue x = program(text);
        due("run of " + text, run(x, 20000, 3000), 1);
        due("thrown by " + text, x.thrown(0), thrown);
        due("result of " + text, x.result(), 0);
        return x;
    }

    /** The latest run printed just these. */
    static void printed(JinjaTongue x, int... numbers) {
        due("count(6)", x.count(6), numbers.length);
        for (int i = 0; i < numbers.length; i++) {
            due("output(" + i + ")", x.output(i), numbers[i]);
        }
    }
}
