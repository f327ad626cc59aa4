import java.util.ArrayList;
import java.util.List;
import java.util.TreeMap;

/**
 * Long runs of calls, each answered by ReviewBench and by the model; in some, all questions follow each call. No bench
 * is asked more often than the document promises: for the questions, the calls are made again on other benches.
 */
public final class ModelTest {
    private static final int RUNS = 1500;
    private static final int CALLS = 512;
    private static final int RUNS_LOOKED_THROUGH = 30;
    private static final int LEAST_MET = 10;

    private static final String[] NAMES = {"giveRange", "open", "addLine", "lay", "landAfter", "setPriority",
        "comment", "resolve", "approve", "withdraw", "land", "landAll", "reasonAgainst", "missingUser", "landedAt",
        "mainLines", "mainLine", "rounds", "lines", "lineAt", "edits", "editsByWays", "ownerOf", "needs",
        "placeIn", "placeByComparing", "isOpen", "openComments", "hasApproved", "isStale"};

    // What the runs must have met, each some times, so that they test what they are there for.
    private static final String[] TO_BE_MET = {"giveRange throws.IndexOutOfBoundsException",
        "giveRange throws.IllegalArgumentException", "giveRange throws.IllegalStateException", "giveRange 6",
        "open throws.IndexOutOfBoundsException", "open throws.IllegalStateException", "open 3",
        "addLine throws.IndexOutOfBoundsException", "addLine throws.IllegalArgumentException",
        "addLine throws.IllegalStateException", "addLine 12", "lay throws.IndexOutOfBoundsException",
        "lay throws.IllegalStateException", "lay 3", "landAfter throws.IndexOutOfBoundsException",
        "landAfter throws.IllegalStateException", "landAfter throws.UnsupportedOperationException", "landAfter 2",
        "setPriority throws.IllegalArgumentException", "setPriority 9", "comment throws.NoSuchElementException",
        "comment throws.IllegalStateException", "comment 11", "resolve throws.IllegalStateException", "resolve 1",
        "approve throws.NoSuchElementException", "approve throws.IllegalStateException", "approve 1", "approve 3",
        "withdraw throws.NoSuchElementException", "withdraw throws.IllegalStateException", "withdraw 1",
        "land throws.UnsupportedOperationException", "land 0", "land 12", "landAll 0", "landAll 1", "landAll 2",
        "reasonAgainst l", "reasonAgainst r", "reasonAgainst d", "reasonAgainst c", "reasonAgainst a",
        "reasonAgainst m", "reasonAgainst s", "reasonAgainst throws.NoSuchElementException",
        "missingUser throws.NoSuchElementException", "missingUser 4", "landedAt 3", "edits 0", "edits 12",
        "editsByWays 12", "needs true", "needs false", "placeIn throws.NoSuchElementException", "placeIn 0",
        "placeIn 11", "placeByComparing 0", "placeByComparing 11", "isStale true", "isStale false", "isStale throws.NoSuchElementException"};

    private static final TreeMap<String, Integer> met = new TreeMap<>();

    private long seed;
    private ReviewBench bench = new ReviewBench();
    private final Model model = new Model();
    private final List<int[]> made = new ArrayList<>();
    private final StringBuilder history = new StringBuilder();
    private final int contents;
    private final int mostEdits;
    private final int oneLandsIn;
    private final int removedOfFive;
    private final boolean onlyLands;
    private boolean wrong = false;

    private ModelTest(int run) {
        seed = run;
        seed = ((long) below(1 << 30) << 30) + below(1 << 30);
        contents = new int[] {1, 2, 3, 5, 8, 14, 100}[below(7)];
        mostEdits = 1 + below(12);
        oneLandsIn = 2 + 10 * below(5);
        removedOfFive = below(4);
        onlyLands = below(3) == 0;
    }

    public static void main(String[] args) {
        int wrongRuns = 0;
        for (int run = 0; run < RUNS && wrongRuns < 5; run++) {
            ModelTest test = new ModelTest(run);
            if (!test.goesWell(run % (RUNS / RUNS_LOOKED_THROUGH) == 0)) {
                wrongRuns++;
                System.out.println("run " + run + " goes wrong:" + test.history);
            }
        }
        int notMet = 0;
        for (String outcome : TO_BE_MET) {
            if (met.getOrDefault(outcome, 0) < LEAST_MET) {
                notMet++;
                System.out.println("the runs meet '" + outcome + "' too seldom: " + met.getOrDefault(outcome, 0));
            }
        }
        System.out.println("ModelTest: " + RUNS + " runs, " + wrongRuns + " go wrong, " + notMet + " outcomes not met");
        if (wrongRuns + notMet > 0) {
            System.exit(1);
        }
    }

    private boolean goesWell(boolean lookThrough) {
        int mostCalls = CALLS;
        while (made.size() < mostCalls && !wrong) {
            if (mostCalls == CALLS && isAllLanded()) {
                mostCalls = Math.min(CALLS, made.size() + 40);
            }
            List<int[]> next = made.isEmpty() ? firstCalls() : nextCalls();
            for (int[] call : next) {
                if (made.size() == CALLS || wrong) {
                    break;
                }
                compare(call);
                made.add(call);
                if (lookThrough && made.size() <= CALLS / 2 && !wrong) {
                    compareAllQuestions();
                }
            }
        }
        return !wrong;
    }

    private boolean isAllLanded() {
        return !Check.outcome(() -> model.landedAt(3)).startsWith("throws");
    }

    private int below(int bound) {
        seed += 0x9E3779B97F4A7C15L;
        long mixed = (seed ^ (seed >>> 30)) * 0xBF58476D1CE4E5B9L;
        mixed = (mixed ^ (mixed >>> 27)) * 0x94D049BB133111EBL;
        return (int) ((mixed >>> 33) % bound);
    }

    private int number(int bound) {
        int dice = below(40);
        return dice == 0 ? -1 : dice == 1 ? bound : dice == 2 ? Integer.MIN_VALUE
            : dice == 3 ? Integer.MAX_VALUE : below(bound);
    }

    /** A number that is mostly one of those that exist. */
    private int existing(int count, int bound) {
        return count == 0 || below(12) == 0 ? number(bound) : below(count);
    }

    private int aChange() {
        int count = 0;
        while (count < 4 && !Check.outcome(rounds(count)).startsWith("throws")) {
            count++;
        }
        return existing(count, 4);
    }

    private Check.Call rounds(int change) {
        return () -> model.rounds(change);
    }

    private int content() {
        return below(60) == 0 ? number(100) : below(contents) * (99 / contents);
    }

    /** Often a main text from which the other changes start, each with a round of its own. */
    private List<int[]> firstCalls() {
        List<int[]> calls = new ArrayList<>();
        calls.add(new int[] {1, below(5), 0, 0});
        if (below(3) > 0) {
            layARound(calls, 0);
            calls.add(new int[] {10, 0, 0, 0});
            for (int change = 1; change < 4; change++) {
                calls.add(new int[] {1, below(5), 0, 0});
            }
        }
        return calls;
    }

    private List<int[]> nextCalls() {
        List<int[]> calls = new ArrayList<>();
        int dice = below(100);
        if (onlyLands) {
            calls.addAll(nextOfLanding(dice));
        } else if (dice < 6) {
            layARound(calls, aChange());
        } else if (dice < 10) {
            calls.add(new int[] {1, number(5), 0, 0});
        } else if (dice < 12) {
            int low = number(100);
            calls.add(new int[] {0, low, below(4) == 0 ? number(100) : Math.min(99, low + below(30)), number(5)});
        } else if (dice < 18) {
            calls.add(new int[] {7, below(12), 0, 0});
        } else if (dice < 26) {
            calls.add(new int[] {6, aChange(), number(12), 0});
        } else if (dice < 44) {
            calls.add(new int[] {8, aChange(), number(5), 0});
        } else {
            calls.add(anyCall());
        }
        return calls;
    }

    /** In some runs no owner and no comment is in the way of landing, so that more is merged. */
    private List<int[]> nextOfLanding(int dice) {
        List<int[]> calls = new ArrayList<>();
        if (dice < 25) {
            layARound(calls, aChange());
        } else if (dice < 30) {
            calls.add(new int[] {1, number(5), 0, 0});
        } else if (dice < 35) {
            calls.add(new int[] {4, aChange(), aChange(), 0});
        } else if (dice < 45) {
            calls.add(new int[] {5, aChange(), number(10), 0});
        } else if (dice < 90) {
            calls.add(new int[] {12, aChange(), 0, 0});
        } else {
            calls.add(new int[] {below(3) == 0 ? 11 : 10, aChange(), 0, 0});
        }
        return calls;
    }

    private int[] anyCall() {
        int op = below(NAMES.length);
        switch (NAMES[op]) {
            case "giveRange":
                return new int[] {below(3) == 0 ? 0 : 12, aChange(), 99, number(5)};
            case "land":
            case "landAll":
                return below(oneLandsIn) > 0 ? new int[] {24 + below(2), below(12), below(4), 0}
                    : new int[] {op, aChange(), 0, 0};
            case "landAfter":
                return below(3) > 0 ? new int[] {13, aChange(), 0, 0} : new int[] {op, aChange(), aChange(), 0};
            case "addLine":
                return new int[] {op, aChange(), content(), 0};
            case "setPriority":
                return new int[] {op, aChange(), number(10), 0};
            case "comment":
                return new int[] {op, aChange(), number(12), 0};
            case "resolve":
            case "isOpen":
                return new int[] {op, number(12), 0, 0};
            case "placeIn":
            case "placeByComparing":
                return new int[] {op, number(12), number(4), 0};
            case "landedAt":
                return new int[] {op, number(4), 0, 0};
            case "mainLine":
                return new int[] {op, number(12), 0, 0};
            case "ownerOf":
                return new int[] {op, number(100), 0, 0};
            case "lines":
                return new int[] {op, aChange(), number(4), 0};
            case "lineAt":
                return new int[] {op, aChange(), number(4), number(12)};
            case "edits":
            case "editsByWays":
                return new int[] {op, aChange(), number(4), number(4)};
            default:
                return new int[] {op, aChange(), number(5), 0};
        }
    }

    /** Lays a text that is the main text, or the present round, with some lines removed and added. */
    private void layARound(List<int[]> calls, int change) {
        List<Integer> text = new ArrayList<>();
        int start = below(6);
        String rounds = Check.outcome(rounds(change));
        int present = rounds.startsWith("throws") ? 0 : Integer.parseInt(rounds);
        if (start < 2 && present > 0) {
            for (int line = 0; line < model.lines(change, present - 1); line++) {
                text.add(model.lineAt(change, present - 1, line));
            }
        } else if (start < 5) {
            for (int line = 0; line < model.mainLines(); line++) {
                text.add(model.mainLine(line));
            }
        }
        boolean isNew = start == 5 || text.isEmpty();
        int edits = isNew ? below(14) : below(mostEdits);
        for (int edit = 0; edit < edits; edit++) {
            if (!isNew && below(5) < removedOfFive && !text.isEmpty()) {
                text.remove(below(text.size()));
            } else {
                text.add(below(text.size() + 1), content());
            }
        }
        while (text.size() > 12 && below(9) > 0) {
            text.remove(below(text.size()));
        }
        for (int content : text) {
            calls.add(new int[] {2, change, content, 0});
        }
        calls.add(new int[] {3, change, 0, 0});
    }

    private void compare(int[] call) {
        int op = call[0];
        String due = Check.outcome(() -> ofModel(op, call[1], call[2], call[3]));
        String got = Check.outcome(() -> ofBench(op, call[1], call[2], call[3]));
        met.merge(NAMES[op] + " " + due, 1, Integer::sum);
        boolean question = op >= 12;
        if (!question || !got.equals(due)) {
            history.append("\n  ").append(NAMES[op]).append('(').append(call[1]).append(", ").append(call[2])
                .append(", ").append(call[3]).append(") ").append(got);
        }
        if (!got.equals(due)) {
            history.append(", due is ").append(due);
            wrong = true;
        }
    }

    private void compareAllQuestions() {
        ReviewBench goingOn = bench;
        int left = 0;
        for (int[] question : allQuestions()) {
            if (left == 0) {
                bench = madeAgain();
                left = CALLS - made.size();
            }
            compare(question);
            left--;
        }
        bench = goingOn;
    }

    private ReviewBench madeAgain() {
        ReviewBench goingOn = bench;
        bench = new ReviewBench();
        for (int[] call : made) {
            Check.outcome(() -> ofBench(call[0], call[1], call[2], call[3]));
        }
        ReviewBench again = bench;
        bench = goingOn;
        return again;
    }

    private static List<int[]> allQuestions() {
        List<int[]> questions = new ArrayList<>();
        questions.add(new int[] {15, 0, 0, 0});
        for (int line = -1; line <= 12; line++) {
            questions.add(new int[] {16, line, 0, 0});
        }
        for (int content = -1; content <= 100; content++) {
            questions.add(new int[] {22, content, 0, 0});
        }
        for (int change = -1; change <= 4; change++) {
            addQuestionsOf(change, questions);
        }
        for (int comment = -1; comment <= 12; comment++) {
            questions.add(new int[] {26, comment, 0, 0});
            for (int round = -1; round <= 4; round++) {
                questions.add(new int[] {24, comment, round, 0});
                questions.add(new int[] {25, comment, round, 0});
            }
        }
        return questions;
    }

    private static void addQuestionsOf(int change, List<int[]> questions) {
        for (int op : new int[] {12, 13, 14, 17, 27}) {
            questions.add(new int[] {op, change, 0, 0});
        }
        for (int user = -1; user <= 5; user++) {
            for (int op : new int[] {23, 28, 29}) {
                questions.add(new int[] {op, change, user, 0});
            }
        }
        for (int round = -1; round <= 4; round++) {
            questions.add(new int[] {18, change, round, 0});
            for (int line = -1; line <= 12; line++) {
                questions.add(new int[] {19, change, round, line});
            }
            for (int to = -1; to <= 4; to++) {
                questions.add(new int[] {20, change, round, to});
                questions.add(new int[] {21, change, round, to});
            }
        }
    }

    private Object ofBench(int op, int a, int b, int c) {
        switch (NAMES[op]) {
            case "giveRange": return bench.giveRange(a, b, c);
            case "open": return bench.open(a);
            case "addLine": return bench.addLine(a, b);
            case "lay": return bench.lay(a);
            case "landAfter": return bench.landAfter(a, b);
            case "setPriority": return bench.setPriority(a, b);
            case "comment": return bench.comment(a, b);
            case "resolve": return bench.resolve(a);
            case "approve": return bench.approve(a, b);
            case "withdraw": return bench.withdraw(a, b);
            case "land": return bench.land(a);
            case "landAll": return bench.landAll();
            case "reasonAgainst": return bench.reasonAgainst(a);
            case "missingUser": return bench.missingUser(a);
            case "landedAt": return bench.landedAt(a);
            case "mainLines": return bench.mainLines();
            case "mainLine": return bench.mainLine(a);
            case "rounds": return bench.rounds(a);
            case "lines": return bench.lines(a, b);
            case "lineAt": return bench.lineAt(a, b, c);
            case "edits": return bench.edits(a, b, c);
            case "editsByWays": return bench.editsByWays(a, b, c);
            case "ownerOf": return bench.ownerOf(a);
            case "needs": return bench.needs(a, b);
            case "placeIn": return bench.placeIn(a, b);
            case "placeByComparing": return bench.placeByComparing(a, b);
            case "isOpen": return bench.isOpen(a);
            case "openComments": return bench.openComments(a);
            case "hasApproved": return bench.hasApproved(a, b);
            default: return bench.isStale(a, b);
        }
    }

    private Object ofModel(int op, int a, int b, int c) {
        switch (NAMES[op]) {
            case "giveRange": return model.giveRange(a, b, c);
            case "open": return model.open(a);
            case "addLine": return model.addLine(a, b);
            case "lay": return model.lay(a);
            case "landAfter": return model.landAfter(a, b);
            case "setPriority": return model.setPriority(a, b);
            case "comment": return model.comment(a, b);
            case "resolve": return model.resolve(a);
            case "approve": return model.approve(a, b);
            case "withdraw": return model.withdraw(a, b);
            case "land": return model.land(a);
            case "landAll": return model.landAll();
            case "reasonAgainst": return model.reasonAgainst(a);
            case "missingUser": return model.missingUser(a);
            case "landedAt": return model.landedAt(a);
            case "mainLines": return model.mainLines();
            case "mainLine": return model.mainLine(a);
            case "rounds": return model.rounds(a);
            case "lines": return model.lines(a, b);
            case "lineAt": return model.lineAt(a, b, c);
            case "edits":
            case "editsByWays": return model.edits(a, b, c);
            case "ownerOf": return model.ownerOf(a);
            case "needs": return model.needs(a, b);
            case "placeIn":
            case "placeByComparing": return model.placeIn(a, b);
            case "isOpen": return model.isOpen(a);
            case "openComments": return model.openComments(a);
            case "hasApproved": return model.hasApproved(a, b);
            default: return model.isStale(a, b);
        }
    }
}
