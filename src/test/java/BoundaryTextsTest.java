/** The boundary cases of promises 17 to 25, sentence by sentence. */
public final class BoundaryTextsTest {
    private static final int LEAST = Integer.MIN_VALUE;
    private static final int MOST = Integer.MAX_VALUE;
    private static final int[] NO_USERS = {-1, 5, LEAST, MOST};
    private static final int[] NO_CONTENTS = {-1, 100, LEAST, MOST};

    private BoundaryTextsTest() {
    }

    public static void main(String[] args) {
        Sentences.run(BoundaryTextsTest.class);
    }

    /** Change 0 with a full round, an empty one and one of two lines; change 1 without a round. */
    private static ReviewBench withThreeRounds() {
        ReviewBench bench = Bench.withRound(Bench.linesFrom(30, 12));
        bench.lay(0);
        Bench.lay(bench, 0, 99, 0);
        bench.open(1);
        return bench;
    }

    private static ReviewBench withFourRounds() {
        ReviewBench bench = withThreeRounds();
        Bench.lay(bench, 0, Bench.linesFrom(60, 12));
        return bench;
    }

    // ---- promise 17

    @Holds(at = "Promise 17", sentence = "Returns the number of lines.")
    static void mainLinesFromNoneToTwelve() {
        Check.due("at first", 0, () -> new ReviewBench().mainLines());
        Check.due("one line", 1, () -> Bench.withMain(7).mainLines());
        Check.due("twelve lines", 12, () -> Bench.withMain(Bench.linesFrom(1, 12)).mainLines());
        ReviewBench bench = Bench.withMain(1, 2);
        bench.open(0);
        Check.due("an open change adds none", 2, bench::mainLines);
        bench.lay(1);
        Check.due("a round removes none", 2, bench::mainLines);
        bench.land(1);
        Check.due("when all are removed", 0, bench::mainLines);
    }

    @Holds(at = "Promise 17", sentence = "Returns the number of lines of the main text.")
    static void mainLinesOfTheMergedText() {
        ReviewBench bench = Bench.withRoundBeside(new int[] {1, 2, 3}, new int[] {1, 2, 3, 4}, new int[] {1, 3});
        Check.due("the main text, not the round", 4, bench::mainLines);
        bench.land(2);
        Check.due("the merged text, not the round", 3, bench::mainLines);
    }

    // ---- promise 18

    @Holds(at = "Promise 18", sentence = "Returns the content.")
    static void mainLineFirstAndLast() {
        ReviewBench bench = Bench.withMain(0, 20, 21, 22, 23, 24, 25, 26, 27, 28, 29, 99);
        Check.due("line 0", 0, () -> bench.mainLine(0));
        Check.due("line 1", 20, () -> bench.mainLine(1));
        Check.due("line 10", 29, () -> bench.mainLine(10));
        Check.due("line 11", 99, () -> bench.mainLine(11));
    }

    @Holds(at = "Promise 18", sentence = "Returns a line of the main text.")
    static void mainLineOfTheMergedText() {
        ReviewBench bench = Bench.withRoundBeside(new int[] {1, 2, 3}, new int[] {1, 2, 3, 4}, new int[] {1, 3});
        Check.due("of the main text, not of the round", 2, () -> bench.mainLine(1));
        bench.land(2);
        Check.due("of the merged text", 3, () -> bench.mainLine(1));
        Check.due("of the merged text, not of the round", 4, () -> bench.mainLine(2));
    }

    @Holds(at = "Promise 18", sentence = "Throws NoSuchElementException if there is no such line")
    static void mainLineOfNone() {
        for (int line : new int[] {-1, 2, 3, 11, 12, LEAST, MOST}) {
            Refusal.noSuchElement("mainLine(" + line + ") of two", () -> Bench.withMain(1, 2),
                bench -> bench.mainLine(line));
        }
        for (int line : new int[] {-1, 12, 13, 23, 24, LEAST, MOST}) {
            Refusal.noSuchElement("mainLine(" + line + ") of twelve", () -> Bench.withMain(Bench.linesFrom(1, 12)),
                bench -> bench.mainLine(line));
        }
        Refusal.noSuchElement("mainLine(0) of none", ReviewBench::new, bench -> bench.mainLine(0));
        Refusal.noSuchElement("mainLine(1) when it was removed", () -> {
            ReviewBench bench = Bench.withMain(1, 2);
            bench.open(0);
            Bench.lay(bench, 1, 1);
            bench.land(1);
            return bench;
        }, bench -> bench.mainLine(1));
    }

    // ---- promise 19

    @Holds(at = "Promise 19", sentence = "Returns the number of rounds.")
    static void roundsFromNoneToFour() {
        ReviewBench bench = Bench.withChanges(2);
        Check.due("none", 0, () -> bench.rounds(0));
        bench.addLine(0, 1);
        Check.due("a draft is none", 0, () -> bench.rounds(0));
        for (int round = 1; round <= 4; round++) {
            bench.lay(0);
            Check.due("rounds", round, () -> bench.rounds(0));
        }
        Check.due("the other change's", 0, () -> bench.rounds(1));
        bench.land(0);
        Check.due("when it has landed", 4, () -> bench.rounds(0));
    }

    @Holds(at = "Promise 19", sentence = "Returns the number of rounds of a change.")
    static void roundsOfEachChange() {
        ReviewBench bench = Bench.withChanges(4);
        for (int change = 0; change < 4; change++) {
            for (int round = change; round < 4; round++) {
                bench.lay(change);
            }
        }
        for (int change = 0; change < 4; change++) {
            int asked = change;
            Check.due("rounds of change " + asked, 4 - asked, () -> bench.rounds(asked));
        }
    }

    @Holds(at = "Promise 19", sentence = "Throws IndexOutOfBoundsException if there is no such change")
    static void roundsOfNoChange() {
        for (int change : new int[] {-1, 2, 3, LEAST, MOST}) {
            Refusal.outOfBounds("rounds of change " + change, BoundaryTextsTest::withThreeRounds,
                bench -> bench.rounds(change));
        }
        Refusal.outOfBounds("rounds of change 0 of none", ReviewBench::new, bench -> bench.rounds(0));
        Refusal.outOfBounds("rounds of change 4 of four", () -> Bench.withChanges(4), bench -> bench.rounds(4));
        Check.due("rounds of change 3 of four", 0, () -> Bench.withChanges(4).rounds(3));
    }

    // ---- promise 20

    @Holds(at = "Promise 20", sentence = "Returns the number of lines.")
    static void linesFromNoneToTwelve() {
        ReviewBench bench = withFourRounds();
        Check.due("a full round", 12, () -> bench.lines(0, 0));
        Check.due("an empty round", 0, () -> bench.lines(0, 1));
        Check.due("a round of two lines", 2, () -> bench.lines(0, 2));
        Check.due("the last round", 12, () -> bench.lines(0, 3));
    }

    @Holds(at = "Promise 20", sentence = "Returns the number of lines of a round.")
    static void linesOfTheNamedChangesRound() {
        ReviewBench bench = withFourRounds();
        Bench.lay(bench, 1, 5, 6, 7);
        Bench.draft(bench, 1, 8, 9);
        Check.due("change 0, round 0", 12, () -> bench.lines(0, 0));
        Check.due("change 1, round 0, without the draft", 3, () -> bench.lines(1, 0));
        bench.lay(1);
        Check.due("change 1, round 1", 2, () -> bench.lines(1, 1));
        Check.due("change 0, round 1", 0, () -> bench.lines(0, 1));
    }

    @Holds(at = "Promise 20", sentence = "Throws IndexOutOfBoundsException if there is no such change")
    static void linesOfNoChange() {
        for (int change : new int[] {-1, 2, 3, LEAST, MOST}) {
            Refusal.outOfBounds("lines of change " + change, BoundaryTextsTest::withThreeRounds,
                bench -> bench.lines(change, 0));
        }
        Refusal.outOfBounds("lines of change 0 of none", ReviewBench::new, bench -> bench.lines(0, 0));
        Refusal.outOfBounds("lines of change 4 of four", () -> Bench.withChanges(4), bench -> bench.lines(4, 0));
    }

    @Holds(at = "Promise 20", sentence = "Throws NoSuchElementException if the change has no such round")
    static void linesOfNoRound() {
        for (int round : new int[] {-1, 3, 4, LEAST, MOST}) {
            Refusal.noSuchElement("lines of round " + round, BoundaryTextsTest::withThreeRounds,
                bench -> bench.lines(0, round));
        }
        Refusal.noSuchElement("lines of round 4 of four", BoundaryTextsTest::withFourRounds, bench -> bench.lines(0, 4));
        Refusal.noSuchElement("lines of a draft", () -> {
            ReviewBench bench = withThreeRounds();
            bench.addLine(1, 1);
            return bench;
        }, bench -> bench.lines(1, 0));
    }

    // ---- promise 21

    @Holds(at = "Promise 21", sentence = "Returns the content.")
    static void lineAtFirstAndLast() {
        ReviewBench bench = withFourRounds();
        Check.due("the first line of the first round", 30, () -> bench.lineAt(0, 0, 0));
        Check.due("its last line", 41, () -> bench.lineAt(0, 0, 11));
        Check.due("the greatest content", 99, () -> bench.lineAt(0, 2, 0));
        Check.due("the least content", 0, () -> bench.lineAt(0, 2, 1));
        Check.due("the first line of the last round", 60, () -> bench.lineAt(0, 3, 0));
        Check.due("its last line", 71, () -> bench.lineAt(0, 3, 11));
    }

    @Holds(at = "Promise 21", sentence = "Returns a line of a round.")
    static void lineAtOfTheNamedChangesRound() {
        ReviewBench bench = withFourRounds();
        Bench.lay(bench, 1, 5, 6, 7);
        Bench.lay(bench, 1, 8, 9);
        bench.addLine(1, 4);
        Check.due("change 1, round 0", 6, () -> bench.lineAt(1, 0, 1));
        Check.due("change 1, round 1", 9, () -> bench.lineAt(1, 1, 1));
        Check.due("change 0, round 0", 31, () -> bench.lineAt(0, 0, 1));
        Check.due("change 0, round 2", 0, () -> bench.lineAt(0, 2, 1));
    }

    @Holds(at = "Promise 21", sentence = "Throws IndexOutOfBoundsException if there is no such change")
    static void lineAtOfNoChange() {
        for (int change : new int[] {-1, 2, 3, LEAST, MOST}) {
            Refusal.outOfBounds("lineAt of change " + change, BoundaryTextsTest::withThreeRounds,
                bench -> bench.lineAt(change, 0, 0));
        }
        Refusal.outOfBounds("lineAt of change 0 of none", ReviewBench::new, bench -> bench.lineAt(0, 0, 0));
        Refusal.outOfBounds("lineAt of change 4 of four", () -> Bench.withChanges(4), bench -> bench.lineAt(4, 0, 0));
    }

    @Holds(at = "Promise 21",
        sentence = "Throws NoSuchElementException if the change has no such round, or the round no such line")
    static void lineAtOfNoRound() {
        for (int round : new int[] {-1, 3, 4, LEAST, MOST}) {
            Refusal.noSuchElement("lineAt of round " + round, BoundaryTextsTest::withThreeRounds,
                bench -> bench.lineAt(0, round, 0));
        }
        Refusal.noSuchElement("lineAt of round 4 of four", BoundaryTextsTest::withFourRounds,
            bench -> bench.lineAt(0, 4, 0));
        Refusal.noSuchElement("lineAt of round 0 of none", BoundaryTextsTest::withThreeRounds,
            bench -> bench.lineAt(1, 0, 0));
    }

    @Holds(at = "Promise 21",
        sentence = "Throws NoSuchElementException if the change has no such round, or the round no such line")
    static void lineAtOfNoLine() {
        for (int line : new int[] {-1, 2, 3, 11, 12, LEAST, MOST}) {
            Refusal.noSuchElement("lineAt of line " + line, BoundaryTextsTest::withThreeRounds,
                bench -> bench.lineAt(0, 2, line));
        }
        for (int line : new int[] {-1, 12, 13, 23, 24, LEAST, MOST}) {
            Refusal.noSuchElement("lineAt of line " + line + " of twelve", BoundaryTextsTest::withThreeRounds,
                bench -> bench.lineAt(0, 0, line));
        }
        Refusal.noSuchElement("lineAt of an empty round", BoundaryTextsTest::withThreeRounds,
            bench -> bench.lineAt(0, 1, 0));
    }

    @Holds(at = "Terms", sentence = "If several exceptions apply, the one that is listed first is thrown.")
    static void questionsAboutTextsThrowTheFirst() {
        Refusal.outOfBounds("lines: no change, no round", BoundaryTextsTest::withThreeRounds,
            bench -> bench.lines(2, -1));
        Refusal.outOfBounds("lineAt: no change, no round", BoundaryTextsTest::withThreeRounds,
            bench -> bench.lineAt(-1, 4, 0));
        Refusal.outOfBounds("lineAt: no change, no line", BoundaryTextsTest::withThreeRounds,
            bench -> bench.lineAt(2, 0, -1));
        Refusal.outOfBounds("edits: no change, no rounds", BoundaryTextsTest::withThreeRounds,
            bench -> bench.edits(2, 4, -1));
        Refusal.outOfBounds("editsByWays: no change, no rounds", BoundaryTextsTest::withThreeRounds,
            bench -> bench.editsByWays(-1, -1, 4));
        Refusal.illegalArgument("ownerOf: no content, no owner", ReviewBench::new, bench -> bench.ownerOf(100));
    }

    // ---- promises 22 and 23

    private static void editsAre(int due, int[] first, int[] second) {
        ReviewBench bench = Bench.withRound(first);
        Bench.lay(bench, 0, second);
        Check.due("edits", due, () -> bench.edits(0, 0, 1));
        Check.due("edits back", due, () -> bench.edits(0, 1, 0));
        Check.due("editsByWays", due, () -> bench.editsByWays(0, 0, 1));
        Check.due("editsByWays back", due, () -> bench.editsByWays(0, 1, 0));
    }

    @Holds(at = "Promise 22", sentence = "Returns the number of lines.")
    static void editsOfEmptyAndFullRounds() {
        int[] none = {};
        int[] full = Bench.linesFrom(10, 12);
        editsAre(0, none, none);
        editsAre(1, none, new int[] {0});
        editsAre(12, none, full);
        editsAre(0, full, full);
        editsAre(24, full, Bench.linesFrom(60, 12));
        editsAre(11, full, new int[] {10});
        editsAre(11, full, new int[] {21});
        editsAre(13, full, new int[] {0});
    }

    @Holds(at = "Promise 23", sentence = "Returns the number of lines.")
    static void editsByWaysOfOneLine() {
        editsAre(0, new int[] {99}, new int[] {99});
        editsAre(2, new int[] {99}, new int[] {98});
        editsAre(1, new int[] {0}, new int[] {});
        editsAre(1, new int[] {0}, new int[] {0, 0});
        editsAre(11, Bench.linesFrom(10, 12), new int[] {15});
        editsAre(13, Bench.linesFrom(10, 12), new int[] {99});
    }

    @Holds(at = "Promise 23", sentence = "Returns the same number,"
        + " found by following the farthest ways with each number of edits.")
    static void editsByWaysOfTheLeastAndTheMostEdits() {
        int[] text = {1, 2, 3, 4, 5, 6, 7, 8, 9, 10, 11, 12};
        editsAre(2, text, new int[] {12, 1, 2, 3, 4, 5, 6, 7, 8, 9, 10, 11});
        editsAre(2, text, new int[] {2, 3, 4, 5, 6, 7, 8, 9, 10, 11, 12, 1});
        editsAre(22, text, new int[] {12, 11, 10, 9, 8, 7, 6, 5, 4, 3, 2, 1});
        editsAre(5, new int[] {1, 2, 3, 1, 2, 2, 1}, new int[] {3, 2, 1, 2, 1, 3});
        editsAre(1, new int[] {1, 1, 1}, new int[] {1, 1});
        editsAre(24, new int[] {1, 1, 1, 1, 1, 1, 1, 1, 1, 1, 1, 1}, new int[] {2, 2, 2, 2, 2, 2, 2, 2, 2, 2, 2, 2});
    }

    @Holds(at = "Promise 23", sentence = "Returns the same number,"
        + " found by following the farthest ways with each number of edits.")
    static void editsByWaysOfManyShortTexts() {
        for (int first = 0; first < 64; first++) {
            ReviewBench bench = Bench.withRound(shortText(first));
            for (int next = 0; next < 3; next++) {
                Bench.lay(bench, 0, shortText(7 * first + 23 * next + 1));
            }
            for (int from = 0; from < 4; from++) {
                for (int to = 0; to < 4; to++) {
                    int start = from;
                    int end = to;
                    String due = Check.outcome(() -> bench.edits(0, start, end));
                    Check.due("editsByWays", due, () -> bench.editsByWays(0, start, end));
                }
            }
        }
    }

    /** A text of four to seven lines, each of content 0 or 1. */
    private static int[] shortText(int number) {
        int[] contents = new int[4 + number % 4];
        for (int line = 0; line < contents.length; line++) {
            contents[line] = number >> line & 1;
        }
        return contents;
    }

    @Holds(at = "Promise 22", sentence = "Returns the number of removed and added lines of the script"
        + " from a round to another one, found with a table.")
    static void editsFromTheFirstToTheLastRoundAndWithinOne() {
        ReviewBench bench = withFourRounds();
        Check.due("edits from 0 to 3", 24, () -> bench.edits(0, 0, 3));
        Check.due("editsByWays from 0 to 3", 24, () -> bench.editsByWays(0, 0, 3));
        Check.due("edits from 3 to 0", 24, () -> bench.edits(0, 3, 0));
        Check.due("editsByWays from 3 to 0", 24, () -> bench.editsByWays(0, 3, 0));
        Check.due("edits from 2 to 3", 14, () -> bench.edits(0, 2, 3));
        Check.due("editsByWays from 1 to 2", 2, () -> bench.editsByWays(0, 1, 2));
        for (int round = 0; round < 4; round++) {
            int same = round;
            Check.due("edits within round " + same, 0, () -> bench.edits(0, same, same));
            Check.due("editsByWays within round " + same, 0, () -> bench.editsByWays(0, same, same));
        }
    }

    @Holds(at = "Promise 22", sentence = "Throws IndexOutOfBoundsException if there is no such change")
    static void editsOfNoChange() {
        for (int change : new int[] {-1, 2, 3, LEAST, MOST}) {
            Refusal.outOfBounds("edits of change " + change, BoundaryTextsTest::withThreeRounds,
                bench -> bench.edits(change, 0, 0));
        }
        Refusal.outOfBounds("edits of change 0 of none", ReviewBench::new, bench -> bench.edits(0, 0, 0));
        Refusal.outOfBounds("edits of change 4 of four", () -> Bench.withChanges(4), bench -> bench.edits(4, 0, 0));
    }

    @Holds(at = "Promise 22", sentence = "Throws NoSuchElementException if the change has no such round, for either")
    static void editsOfNoRound() {
        for (int round : new int[] {-1, 3, 4, LEAST, MOST}) {
            Refusal.noSuchElement("edits from " + round, BoundaryTextsTest::withThreeRounds,
                bench -> bench.edits(0, round, 0));
            Refusal.noSuchElement("edits to " + round, BoundaryTextsTest::withThreeRounds,
                bench -> bench.edits(0, 0, round));
            Refusal.noSuchElement("edits within " + round, BoundaryTextsTest::withThreeRounds,
                bench -> bench.edits(0, round, round));
        }
        Refusal.noSuchElement("edits from 4 of four", BoundaryTextsTest::withFourRounds, bench -> bench.edits(0, 4, 0));
        Refusal.noSuchElement("edits to 4 of four", BoundaryTextsTest::withFourRounds, bench -> bench.edits(0, 0, 4));
        Refusal.noSuchElement("edits without a round", BoundaryTextsTest::withThreeRounds,
            bench -> bench.edits(1, 0, 0));
    }

    @Holds(at = "Promise 23", sentence = "Throws IndexOutOfBoundsException if there is no such change")
    static void editsByWaysOfNoChange() {
        for (int change : new int[] {-1, 2, 3, LEAST, MOST}) {
            Refusal.outOfBounds("editsByWays of change " + change, BoundaryTextsTest::withThreeRounds,
                bench -> bench.editsByWays(change, 0, 0));
        }
        Refusal.outOfBounds("editsByWays of change 0 of none", ReviewBench::new, bench -> bench.editsByWays(0, 0, 0));
        Refusal.outOfBounds("editsByWays of change 4 of four", () -> Bench.withChanges(4),
            bench -> bench.editsByWays(4, 0, 0));
    }

    @Holds(at = "Promise 23", sentence = "Throws NoSuchElementException if the change has no such round, for either")
    static void editsByWaysOfNoRound() {
        for (int round : new int[] {-1, 3, 4, LEAST, MOST}) {
            Refusal.noSuchElement("editsByWays from " + round, BoundaryTextsTest::withThreeRounds,
                bench -> bench.editsByWays(0, round, 0));
            Refusal.noSuchElement("editsByWays to " + round, BoundaryTextsTest::withThreeRounds,
                bench -> bench.editsByWays(0, 0, round));
            Refusal.noSuchElement("editsByWays within " + round, BoundaryTextsTest::withThreeRounds,
                bench -> bench.editsByWays(0, round, round));
        }
        Refusal.noSuchElement("editsByWays from 4 of four", BoundaryTextsTest::withFourRounds,
            bench -> bench.editsByWays(0, 4, 0));
        Refusal.noSuchElement("editsByWays to 4 of four", BoundaryTextsTest::withFourRounds,
            bench -> bench.editsByWays(0, 0, 4));
        Refusal.noSuchElement("editsByWays without a round", BoundaryTextsTest::withThreeRounds,
            bench -> bench.editsByWays(1, 0, 0));
    }

    // ---- promise 24

    @Holds(at = "Promise 24", sentence = "Returns the user.")
    static void ownerOfTheLeastAndTheGreatestContent() {
        ReviewBench bench = new ReviewBench();
        bench.giveRange(0, 0, 4);
        bench.giveRange(99, 99, 0);
        Check.due("the least content, the greatest user", 4, () -> bench.ownerOf(0));
        Check.due("the greatest content, the least user", 0, () -> bench.ownerOf(99));
    }

    @Holds(at = "Promise 24", sentence = "Returns the owner of a line.")
    static void ownerOfALineInSeveralRanges() {
        ReviewBench bench = new ReviewBench();
        bench.giveRange(0, 99, 1);
        bench.giveRange(10, 20, 2);
        bench.giveRange(15, 30, 3);
        int[] contents = {9, 10, 14, 15, 20, 21, 30, 31};
        int[] due = {1, 2, 2, 3, 3, 3, 3, 1};
        for (int next = 0; next < contents.length; next++) {
            int content = contents[next];
            Check.due("the owner of " + content, due[next], () -> bench.ownerOf(content));
        }
    }

    @Holds(at = "Promise 24", sentence = "Throws IllegalArgumentException if the content is not between 0 and 99")
    static void ownerOfNoContent() {
        for (int content : NO_CONTENTS) {
            Refusal.illegalArgument("ownerOf(" + content + ")", () -> {
                ReviewBench bench = new ReviewBench();
                bench.giveRange(0, 99, 1);
                return bench;
            }, bench -> bench.ownerOf(content));
        }
    }

    @Holds(at = "Promise 24", sentence = "Throws NoSuchElementException if it has none")
    static void ownerOfALineWithoutOne() {
        for (int content : new int[] {0, 9, 20, 99}) {
            Refusal.noSuchElement("ownerOf(" + content + ")", () -> {
                ReviewBench bench = new ReviewBench();
                bench.giveRange(10, 19, 1);
                return bench;
            }, bench -> bench.ownerOf(content));
        }
        Refusal.noSuchElement("ownerOf(0) at first", ReviewBench::new, bench -> bench.ownerOf(0));
    }

    // ---- promise 25

    @Holds(at = "Promise 25", sentence = "Returns true if it does, false without a round.")
    static void needsWithoutARound() {
        ReviewBench bench = Bench.withMain(1, 2);
        bench.giveRange(0, 99, 3);
        bench.open(0);
        Check.due("with a base alone", false, () -> bench.needs(1, 3));
        bench.addLine(1, 5);
        Check.due("with a draft", false, () -> bench.needs(1, 3));
        bench.lay(1);
        Check.due("with a round", true, () -> bench.needs(1, 3));
    }

    @Holds(at = "Promise 25", sentence = "Returns true if it does, false without a round.")
    static void needsNoUserWithoutARound() {
        for (int author : new int[] {0, 4}) {
            ReviewBench bench = Bench.withMain(0, 1, 2, 3, 4);
            bench.open(author);
            for (int user = 0; user < 5; user++) {
                bench.giveRange(user, user, user);
            }
            for (int user = 0; user < 5; user++) {
                int asked = user;
                Check.due("user " + asked + " without a round", false, () -> bench.needs(1, asked));
            }
        }
    }

    @Holds(at = "Promise 25", sentence = "Returns true if it does, false without a round.")
    static void needsTheLeastAndTheGreatestUser() {
        ReviewBench bench = new ReviewBench();
        bench.giveRange(1, 1, 0);
        bench.giveRange(2, 2, 4);
        bench.open(2);
        Bench.lay(bench, 0, 1);
        Check.due("the least user", true, () -> bench.needs(0, 0));
        Check.due("not the greatest", false, () -> bench.needs(0, 4));
        Bench.lay(bench, 0, 2);
        Check.due("not the least", false, () -> bench.needs(0, 0));
        Check.due("the greatest user", true, () -> bench.needs(0, 4));
        Bench.lay(bench, 0, 3);
        Check.due("a line without an owner: not the least", false, () -> bench.needs(0, 0));
        Check.due("a line without an owner: not the greatest", false, () -> bench.needs(0, 4));
    }

    @Holds(at = "Promise 25", sentence = "Returns true if it does, false without a round.")
    static void needsWhenItIsGivenStaleOrLanded() {
        ReviewBench bench = Bench.withRound(1);
        bench.giveRange(0, 99, 3);
        bench.approve(0, 3);
        Check.due("when it is given", true, () -> bench.needs(0, 3));
        Bench.lay(bench, 0, 2);
        Check.due("when it is stale", true, () -> bench.needs(0, 3));
        bench.approve(0, 3);
        bench.land(0);
        Check.due("when the change has landed", true, () -> bench.needs(0, 3));
    }

    @Holds(at = "Promise 25", sentence = "Returns whether a change needs the approval of a user.")
    static void needsOfEachChange() {
        ReviewBench bench = Bench.withMain(1, 2);
        bench.giveRange(1, 1, 1);
        bench.giveRange(2, 2, 2);
        bench.open(0);
        bench.open(1);
        Bench.lay(bench, 1, 2);
        Bench.lay(bench, 2);
        Check.due("change 1 removes a line of user 1", true, () -> bench.needs(1, 1));
        Check.due("change 1 keeps the line of user 2", false, () -> bench.needs(1, 2));
        Check.due("change 2 is of user 1", false, () -> bench.needs(2, 1));
        Check.due("change 2 removes a line of user 2", true, () -> bench.needs(2, 2));
        Check.due("no line is of user 3", false, () -> bench.needs(2, 3));
    }

    @Holds(at = "Promise 25", sentence = "Throws IndexOutOfBoundsException if there is no such change or user")
    static void needsOfNoChangeOrNoUser() {
        for (int change : new int[] {-1, 2, 3, LEAST, MOST}) {
            Refusal.outOfBounds("needs of change " + change, BoundaryTextsTest::withThreeRounds,
                bench -> bench.needs(change, 1));
        }
        for (int user : NO_USERS) {
            Refusal.outOfBounds("needs of user " + user, BoundaryTextsTest::withThreeRounds,
                bench -> bench.needs(0, user));
            Refusal.outOfBounds("needs of user " + user + " without a round", BoundaryTextsTest::withThreeRounds,
                bench -> bench.needs(1, user));
        }
        Refusal.outOfBounds("needs of change 0 of none", ReviewBench::new, bench -> bench.needs(0, 0));
        Refusal.outOfBounds("needs of change 4 of four", () -> Bench.withChanges(4), bench -> bench.needs(4, 0));
    }
}
