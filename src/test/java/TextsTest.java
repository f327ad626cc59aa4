/** Promises 17 to 25: mainLines, mainLine, rounds, lines, lineAt, edits, editsByWays, ownerOf, needs. */
public final class TextsTest {
    private static final int LEAST = Integer.MIN_VALUE;
    private static final int MOST = Integer.MAX_VALUE;

    private TextsTest() {
    }

    public static void main(String[] args) {
        mainText();
        rounds();
        lines();
        lineAt();
        edits();
        editsThrow();
        ownerOf();
        needs();
        needsByTheRangesNow();
        needsByTheBase();
        Check.end("TextsTest");
    }

    private static void mainText() {
        ReviewBench bench = Bench.withMain(99, 0, 7);
        Check.due("mainLines", 3, bench::mainLines);
        Check.due("the first line", 99, () -> bench.mainLine(0));
        Check.due("the second line", 0, () -> bench.mainLine(1));
        Check.due("the last line", 7, () -> bench.mainLine(2));
        for (int line : new int[] {-1, 3, 12, LEAST, MOST}) {
            Check.noSuchElement("mainLine " + line, () -> bench.mainLine(line));
        }
        bench.open(0);
        Bench.lay(bench, 1, 99);
        Check.due("a round does not change it", 3, bench::mainLines);
        bench.land(1);
        Check.due("mainLines when lines are removed", 1, bench::mainLines);
        Check.noSuchElement("a line that was removed", () -> bench.mainLine(1));
    }

    private static void rounds() {
        ReviewBench bench = new ReviewBench();
        Check.outOfBounds("rounds without a change", () -> bench.rounds(0));
        bench.open(0);
        bench.open(0);
        bench.addLine(0, 1);
        Check.due("no round", 0, () -> bench.rounds(0));
        for (int round = 1; round <= 4; round++) {
            bench.lay(0);
            int due = round;
            Check.due("rounds", due, () -> bench.rounds(0));
        }
        Check.due("rounds of another change", 0, () -> bench.rounds(1));
        for (int change : new int[] {-1, 2, LEAST, MOST}) {
            Check.outOfBounds("rounds of change " + change, () -> bench.rounds(change));
        }
        bench.land(0);
        Check.due("rounds of a change that has landed", 4, () -> bench.rounds(0));
    }

    private static void lines() {
        ReviewBench bench = new ReviewBench();
        Check.outOfBounds("lines without a change", () -> bench.lines(0, 0));
        bench.open(0);
        Check.noSuchElement("lines without a round", () -> bench.lines(0, 0));
        Bench.lay(bench, 0, 1, 2, 3, 4, 5, 6, 7, 8, 9, 10, 11, 12);
        bench.lay(0);
        Check.due("lines", 12, () -> bench.lines(0, 0));
        Check.due("lines of an empty round", 0, () -> bench.lines(0, 1));
        for (int number : new int[] {-1, 2, LEAST, MOST}) {
            Check.outOfBounds("lines of change " + number, () -> bench.lines(number, 0));
            Check.outOfBounds("lines of no round of change " + number, () -> bench.lines(number, 9));
            Check.noSuchElement("lines of round " + number, () -> bench.lines(0, number));
        }
    }

    private static void lineAt() {
        ReviewBench bench = new ReviewBench();
        Check.outOfBounds("lineAt without a change", () -> bench.lineAt(0, 0, 0));
        bench.open(0);
        Check.noSuchElement("lineAt without a round", () -> bench.lineAt(0, 0, 0));
        Bench.lay(bench, 0, 5, 99, 0);
        Bench.lay(bench, 0, 6);
        Check.due("the first line", 5, () -> bench.lineAt(0, 0, 0));
        Check.due("the last line", 0, () -> bench.lineAt(0, 0, 2));
        Check.due("a line of the next round", 6, () -> bench.lineAt(0, 1, 0));
        for (int number : new int[] {-1, 3, LEAST, MOST}) {
            Check.outOfBounds("lineAt of change " + number, () -> bench.lineAt(number, 0, 0));
            Check.outOfBounds("lineAt of nothing of change " + number, () -> bench.lineAt(number, 9, 99));
            Check.noSuchElement("lineAt of round " + number, () -> bench.lineAt(0, number, 0));
            Check.noSuchElement("lineAt of line " + number, () -> bench.lineAt(0, 0, number));
        }
        Check.noSuchElement("a line that only the round before has", () -> bench.lineAt(0, 1, 1));
    }

    private static void edits() {
        ReviewBench bench = new ReviewBench();
        bench.open(0);
        Bench.lay(bench, 0, 1, 2, 3, 1, 2, 2, 1);
        Bench.lay(bench, 0, 3, 2, 1, 2, 1, 3);
        bench.lay(0);
        Bench.lay(bench, 0, 51, 52, 53, 54, 55, 56, 57, 58, 59, 60, 61, 62);
        editsAre(bench, 0, 0, 1, 5);
        editsAre(bench, 0, 0, 0, 0);
        editsAre(bench, 0, 0, 2, 7);
        editsAre(bench, 0, 1, 3, 18);
        editsAre(bench, 0, 2, 3, 12);
        editsAre(bench, 0, 2, 2, 0);
        bench.open(0);
        Bench.lay(bench, 1, 1, 2, 3, 4, 5, 6, 7, 8, 9, 10, 11, 12);
        Bench.lay(bench, 1, 21, 22, 23, 24, 25, 26, 27, 28, 29, 30, 31, 32);
        Bench.lay(bench, 1, 2, 3, 4, 5, 6, 7, 8, 9, 10, 11, 12, 1);
        editsAre(bench, 1, 0, 1, 24);
        editsAre(bench, 1, 0, 2, 2);
        editsAre(bench, 1, 1, 2, 24);
    }

    private static void editsAre(ReviewBench bench, int change, int from, int to, int due) {
        String what = " of change " + change + ", rounds " + from + " and " + to;
        Check.due("edits" + what, due, () -> bench.edits(change, from, to));
        Check.due("edits back" + what, due, () -> bench.edits(change, to, from));
        Check.due("editsByWays" + what, due, () -> bench.editsByWays(change, from, to));
        Check.due("editsByWays back" + what, due, () -> bench.editsByWays(change, to, from));
    }

    private static void editsThrow() {
        ReviewBench bench = new ReviewBench();
        Check.outOfBounds("edits without a change", () -> bench.edits(0, 0, 0));
        Check.outOfBounds("editsByWays without a change", () -> bench.editsByWays(0, 0, 0));
        bench.open(0);
        Check.noSuchElement("edits without a round", () -> bench.edits(0, 0, 0));
        Check.noSuchElement("editsByWays without a round", () -> bench.editsByWays(0, 0, 0));
        bench.lay(0);
        for (int number : new int[] {-1, 1, LEAST, MOST}) {
            Check.outOfBounds("edits of change " + number, () -> bench.edits(number, 0, number));
            Check.outOfBounds("editsByWays of change " + number, () -> bench.editsByWays(number, number, 0));
            Check.noSuchElement("edits from " + number, () -> bench.edits(0, number, 0));
            Check.noSuchElement("edits to " + number, () -> bench.edits(0, 0, number));
            Check.noSuchElement("editsByWays from " + number, () -> bench.editsByWays(0, number, 0));
            Check.noSuchElement("editsByWays to " + number, () -> bench.editsByWays(0, 0, number));
        }
    }

    private static void ownerOf() {
        ReviewBench bench = new ReviewBench();
        bench.giveRange(30, 39, 0);
        bench.giveRange(0, 34, 4);
        Check.due("the owner by the first range", 0, () -> bench.ownerOf(35));
        Check.due("the owner by the last range", 4, () -> bench.ownerOf(34));
        Check.due("the owner of 0", 4, () -> bench.ownerOf(0));
        Check.noSuchElement("behind all ranges", () -> bench.ownerOf(40));
        Check.noSuchElement("the greatest content", () -> bench.ownerOf(99));
        for (int content : new int[] {-1, 100, LEAST, MOST}) {
            Check.illegalArgument("ownerOf " + content, () -> bench.ownerOf(content));
        }
    }

    private static void needs() {
        ReviewBench bench = new ReviewBench();
        Check.outOfBounds("needs without a change", () -> bench.needs(0, 0));
        bench.giveRange(0, 9, 0);
        bench.giveRange(10, 19, 3);
        bench.open(0);
        bench.addLine(0, 10);
        Check.due("needs without a round", false, () -> bench.needs(0, 3));
        bench.addLine(0, 5);
        bench.lay(0);
        Check.due("needs an owner that it touches", true, () -> bench.needs(0, 3));
        Check.due("needs another one", false, () -> bench.needs(0, 1));
        Check.due("needs its author", false, () -> bench.needs(0, 0));
        bench.approve(0, 3);
        Check.due("needs one that has approved", true, () -> bench.needs(0, 3));
        for (int number : new int[] {-1, 5, LEAST, MOST}) {
            Check.outOfBounds("needs of change " + number, () -> bench.needs(number, 0));
            Check.outOfBounds("needs of user " + number, () -> bench.needs(0, number));
        }
        bench.lay(0);
        Check.due("needs by the present round", false, () -> bench.needs(0, 3));
    }

    private static void needsByTheRangesNow() {
        ReviewBench bench = new ReviewBench();
        bench.open(0);
        Bench.lay(bench, 0, 10, 60);
        Check.due("no owners", false, () -> bench.needs(0, 3));
        bench.giveRange(0, 99, 3);
        Check.due("a range given later", true, () -> bench.needs(0, 3));
        bench.giveRange(10, 10, 4);
        Check.due("the other line is left", true, () -> bench.needs(0, 3));
        Check.due("and this one has another owner", true, () -> bench.needs(0, 4));
        bench.giveRange(60, 60, 4);
        Check.due("no line is left", false, () -> bench.needs(0, 3));
        bench.approve(0, 4);
        bench.land(0);
        Check.due("when it has landed too", true, () -> bench.needs(0, 4));
    }

    private static void needsByTheBase() {
        ReviewBench bench = Bench.withMain(1, 2, 3);
        bench.giveRange(1, 1, 1);
        bench.giveRange(2, 2, 2);
        bench.giveRange(3, 3, 3);
        bench.giveRange(4, 4, 4);
        bench.open(0);
        Check.due("lines of the base without a round", false, () -> bench.needs(1, 1));
        Bench.lay(bench, 1, 2, 1, 3, 4);
        Check.due("a line that is removed and added", true, () -> bench.needs(1, 1));
        Check.due("a line that is kept", false, () -> bench.needs(1, 2));
        Check.due("another one", false, () -> bench.needs(1, 3));
        Check.due("a line that is added", true, () -> bench.needs(1, 4));
        Bench.lay(bench, 1, 1, 2);
        Check.due("a line that is removed", true, () -> bench.needs(1, 3));
        Check.due("a line that is not added now", false, () -> bench.needs(1, 4));
    }
}
