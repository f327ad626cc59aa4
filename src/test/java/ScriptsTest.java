import java.util.ArrayList;
import java.util.List;

/** All pairs of short texts: the edits between them and the places of their lines, found in both ways. */
public final class ScriptsTest {
    private static final int CONTENTS = 3;
    private static final int MOST_LINES = 4;
    private static final int LONG_PAIRS = 4000;

    private static int state = 12345;

    private ScriptsTest() {
    }

    public static void main(String[] args) {
        List<List<Integer>> texts = new ArrayList<>();
        texts.add(new ArrayList<>());
        for (int next = 0; next < texts.size(); next++) {
            for (int content = 0; content < CONTENTS && texts.get(next).size() < MOST_LINES; content++) {
                List<Integer> longer = new ArrayList<>(texts.get(next));
                longer.add(content);
                texts.add(longer);
            }
        }
        for (List<Integer> first : texts) {
            for (List<Integer> second : texts) {
                compare(first, second);
            }
        }
        for (int pair = 0; pair < LONG_PAIRS; pair++) {
            int contents = 1 + pair % 6;
            compare(longText(contents), longText(contents));
        }
        compare(List.of(0, 1, 2, 3, 4, 5, 6, 7, 8, 9, 10, 11), List.of(12, 13, 14, 15, 16, 17, 18, 19, 20, 21, 22, 23));
        Check.end("ScriptsTest");
    }

    private static List<Integer> longText(int contents) {
        List<Integer> text = new ArrayList<>();
        for (int line = below(13); line > 0; line--) {
            text.add(below(contents));
        }
        return text;
    }

    private static int below(int bound) {
        state = state * 1103515245 + 12345;
        return (state >>> 16) % bound;
    }

    private static void compare(List<Integer> first, List<Integer> second) {
        ReviewBench bench = new ReviewBench();
        Model model = new Model();
        bench.open(0);
        model.open(0);
        lay(bench, model, first);
        int comments = Math.min(12, first.size());
        for (int line = 0; line < comments; line++) {
            bench.comment(0, line);
            model.comment(0, line);
        }
        lay(bench, model, second);
        String pair = "from " + first + " to " + second + ": ";
        for (int from = 0; from < 2; from++) {
            int start = from;
            int due = model.edits(0, start, 1 - start);
            Check.due(pair + "edits from " + start, due, () -> bench.edits(0, start, 1 - start));
            Check.due(pair + "editsByWays from " + start, due, () -> bench.editsByWays(0, start, 1 - start));
        }
        for (int line = 0; line < comments; line++) {
            int comment = line;
            String due = Check.outcome(() -> model.placeIn(comment, 1));
            Check.due(pair + "placeIn of line " + line, due, () -> bench.placeIn(comment, 1));
            Check.due(pair + "placeByComparing of line " + line, due, () -> bench.placeByComparing(comment, 1));
        }
    }

    private static void lay(ReviewBench bench, Model model, List<Integer> text) {
        for (int content : text) {
            bench.addLine(0, content);
            model.addLine(0, content);
        }
        bench.lay(0);
        model.lay(0);
    }
}
