import java.io.IOException;
import java.nio.charset.StandardCharsets;
import java.nio.file.Files;
import java.nio.file.Path;
import java.util.List;

/**
 * Whole texts, faults and runs, with the answers of a second program that was written anew from the document and shares
 * no code with the class: it walks the tree, and looks at each new for all that is reachable. They stand in
 * src/test/data/model.txt, a line each: text, what read answers, the INPUT, and runs, each with its end, result, count(5)
 * to count(11), OUTPUT and exception.
 */
public final class ModelTest {
    private static JinjaTongue x = new JinjaTongue();
    private static int line = 0;

    public static void main(String[] args) throws IOException {
        List<String> lines = Files.readAllLines(Path.of("src/test/data/model.txt"), StandardCharsets.ISO_8859_1);
        for (String told : lines) {
            line++;
            String[] words = told.split(" ");
            switch (words[0]) {
                case "text":
                    x = new JinjaTongue();
                    Checks.feed(x, told.substring("text ".length()));
                    break;
                case "read":
                    due("read()", x.read(), words[1]);
                    break;
                case "input":
                    for (int i = 1; i < words.length; i++) {
                        x.input(Integer.parseInt(words[i]));
                    }
                    break;
                default:
                    run(words);
                    break;
            }
        }
        Checks.due("lines of the file that were held", line, lines.size());
        Checks.due("whether there are some", line > 400 ? 1 : 0, 1);
        Checks.end();
    }

    private static void due(String call, long got, String want) {
        Checks.due("line " + line + ": " + call, got, Long.parseLong(want));
    }

    /** run FUEL CELLS end N result N count SEVEN output NUMBERS thrown NUMBERS. */
    private static void run(String[] words) {
        due("run", Checks.run(x, Integer.parseInt(words[1]), Integer.parseInt(words[2])), words[4]);
        due("result()", x.result(), words[6]);
        for (int what = 5; what <= 11; what++) {
            due("count(" + what + ")", x.count(what), words[what + 3]);
        }
        int at = 16;
        int printed = 0;
        for (; !words[at].equals("thrown"); at++) {
            due("output(" + printed + ")", x.output(printed), words[at]);
            printed++;
        }
        due("count(6)", x.count(6), String.valueOf(printed));
        int what = 0;
        for (at++; at < words.length; at++) {
            due("thrown(" + what + ")", x.thrown(what), words[at]);
            what++;
        }
        due("thrown(" + what + "), behind the last one", x.thrown(what), "-1");
        due("refusals()", x.refusals(), "0");
    }
}
