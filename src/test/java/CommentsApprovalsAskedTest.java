/** Promises 26 to 31: placeIn, placeByComparing, isOpen, openComments, hasApproved, isStale. */
public final class CommentsApprovalsAskedTest {
    private static final int[] NO_NUMBERS = {-1, 5, Integer.MIN_VALUE, Integer.MAX_VALUE};

    private CommentsApprovalsAskedTest() {
    }

    public static void main(String[] args) {
        placesFollowTheirLines();
        placesByTheScript();
        placesThrow();
        isOpen();
        openComments();
        hasApproved();
        isStale();
        isStaleRoundByRound();
        isStaleThrows();
        Check.end("CommentsApprovalsAskedTest");
    }

    private static void placesFollowTheirLines() {
        ReviewBench bench = new ReviewBench();
        bench.open(0);
        Bench.lay(bench, 0, 1, 2, 3);
        bench.comment(0, 0);
        bench.comment(0, 1);
        bench.comment(0, 2);
        Bench.lay(bench, 0, 9, 1, 3);
        bench.comment(0, 2);
        Bench.lay(bench, 0, 3, 8, 9, 1, 2);
        Bench.lay(bench, 0, 7, 7, 1, 3);
        placeIs(bench, 0, 0, 0);
        placeIs(bench, 0, 1, 1);
        placeIs(bench, 0, 2, 3);
        placeIs(bench, 0, 3, 2);
        placeIs(bench, 1, 0, 1);
        placeIsGone(bench, 1, 1);
        placeIsGone(bench, 1, 2);
        placeIsGone(bench, 1, 3);
        placeIs(bench, 2, 1, 2);
        placeIsGone(bench, 2, 2);
        placeIsGone(bench, 2, 3);
        placeIsGone(bench, 3, 0);
        placeIs(bench, 3, 1, 2);
        placeIsGone(bench, 3, 2);
        bench.resolve(0);
        placeIs(bench, 0, 3, 2);
        bench.open(1);
        Bench.lay(bench, 1, 4, 5);
        bench.comment(1, 1);
        placeIs(bench, 4, 0, 1);
    }

    private static void placesByTheScript() {
        placesAre(new int[] {1, 2}, new int[] {2, 1}, -1, 0);
        placesAre(new int[] {1}, new int[] {2, 1}, 1);
        placesAre(new int[] {1, 2, 1}, new int[] {1}, 0, -1, -1);
        placesAre(new int[] {1}, new int[] {1, 1}, 0);
        placesAre(new int[] {2, 1, 1}, new int[] {1, 1, 2}, -1, 0, 1);
        placesAre(new int[] {1, 2, 3, 1, 2, 2, 1}, new int[] {3, 2, 1, 2, 1, 3}, -1, -1, 0, -1, 1, 3, 4);
        placesAre(new int[] {1, 2, 3}, new int[] {}, -1, -1, -1);
        placesAre(new int[] {0, 1, 2, 3, 4, 5, 6, 7, 8, 9, 10, 11}, new int[] {11, 0, 1, 2, 3, 4, 5, 6, 7, 8, 9, 10},
            1, 2, 3, 4, 5, 6, 7, 8, 9, 10, 11, -1);
    }

    /** Where the lines of a round are in the next one; -1 if they are gone. */
    private static void placesAre(int[] first, int[] second, int... places) {
        ReviewBench bench = new ReviewBench();
        bench.open(0);
        Bench.lay(bench, 0, first);
        for (int line = 0; line < first.length; line++) {
            bench.comment(0, line);
        }
        Bench.lay(bench, 0, second);
        for (int line = 0; line < first.length; line++) {
            if (places[line] < 0) {
                placeIsGone(bench, line, 1);
            } else {
                placeIs(bench, line, 1, places[line]);
            }
        }
    }

    private static void placeIs(ReviewBench bench, int comment, int round, int due) {
        Check.due("placeIn(" + comment + ", " + round + ")", due, () -> bench.placeIn(comment, round));
        Check.due("placeByComparing(" + comment + ", " + round + ")", due,
            () -> bench.placeByComparing(comment, round));
    }

    private static void placeIsGone(ReviewBench bench, int comment, int round) {
        Check.noSuchElement("placeIn(" + comment + ", " + round + ")", () -> bench.placeIn(comment, round));
        Check.noSuchElement("placeByComparing(" + comment + ", " + round + ")",
            () -> bench.placeByComparing(comment, round));
    }

    private static void placesThrow() {
        ReviewBench bench = new ReviewBench();
        Check.outOfBounds("placeIn without a comment", () -> bench.placeIn(0, 0));
        Check.outOfBounds("placeByComparing without a comment", () -> bench.placeByComparing(0, 0));
        bench.open(0);
        bench.open(0);
        Bench.lay(bench, 0, 1);
        bench.comment(0, 0);
        bench.lay(1);
        bench.lay(1);
        for (int number : NO_NUMBERS) {
            Check.outOfBounds("placeIn of comment " + number, () -> bench.placeIn(number, 0));
            Check.outOfBounds("placeIn of comment " + number + " in no round", () -> bench.placeIn(number, 4));
            Check.outOfBounds("placeByComparing of comment " + number, () -> bench.placeByComparing(number, 0));
            placeIsGone(bench, 0, number);
        }
        placeIsGone(bench, 0, 1);
        Bench.lay(bench, 0, 1);
        placeIs(bench, 0, 1, 0);
        bench.comment(0, 0);
        placeIsGone(bench, 1, 0);
    }

    private static void isOpen() {
        ReviewBench bench = new ReviewBench();
        Check.outOfBounds("isOpen without a comment", () -> bench.isOpen(0));
        bench.open(0);
        Bench.lay(bench, 0, 1, 2);
        bench.comment(0, 0);
        bench.comment(0, 0);
        bench.resolve(1);
        Check.due("a comment", true, () -> bench.isOpen(0));
        Check.due("a resolved comment", false, () -> bench.isOpen(1));
        bench.lay(0);
        Check.due("a comment that is gone", true, () -> bench.isOpen(0));
        for (int number : new int[] {-1, 2, 12, Integer.MIN_VALUE, Integer.MAX_VALUE}) {
            Check.outOfBounds("isOpen of comment " + number, () -> bench.isOpen(number));
        }
    }

    private static void openComments() {
        ReviewBench bench = new ReviewBench();
        Check.outOfBounds("openComments without a change", () -> bench.openComments(0));
        bench.open(0);
        bench.open(0);
        Check.due("none", 0, () -> bench.openComments(0));
        Bench.lay(bench, 0, 1, 2);
        Bench.lay(bench, 1, 1);
        bench.comment(0, 0);
        bench.comment(0, 1);
        bench.comment(1, 0);
        Check.due("two", 2, () -> bench.openComments(0));
        Check.due("those of another change", 1, () -> bench.openComments(1));
        bench.lay(0);
        Check.due("those that are gone count", 2, () -> bench.openComments(0));
        bench.resolve(0);
        Check.due("those that are resolved do not", 1, () -> bench.openComments(0));
        for (int number : NO_NUMBERS) {
            Check.outOfBounds("openComments of change " + number, () -> bench.openComments(number));
        }
    }

    private static void hasApproved() {
        ReviewBench bench = new ReviewBench();
        Check.outOfBounds("hasApproved without a change", () -> bench.hasApproved(0, 0));
        bench.giveRange(0, 9, 1);
        bench.open(0);
        bench.open(0);
        Check.due("hasApproved without a round", false, () -> bench.hasApproved(0, 1));
        Bench.lay(bench, 0, 1);
        bench.approve(0, 1);
        Check.due("hasApproved", true, () -> bench.hasApproved(0, 1));
        Check.due("another user", false, () -> bench.hasApproved(0, 2));
        Check.due("another change", false, () -> bench.hasApproved(1, 1));
        bench.lay(0);
        Check.due("stale", true, () -> bench.isStale(0, 1));
        Check.due("hasApproved, stale", true, () -> bench.hasApproved(0, 1));
        bench.withdraw(0, 1);
        Check.due("taken back", false, () -> bench.hasApproved(0, 1));
        for (int number : NO_NUMBERS) {
            Check.outOfBounds("hasApproved of change " + number, () -> bench.hasApproved(number, 1));
            Check.outOfBounds("hasApproved of user " + number, () -> bench.hasApproved(0, number));
        }
    }

    private static void isStale() {
        ReviewBench bench = new ReviewBench();
        bench.giveRange(0, 9, 1);
        bench.giveRange(10, 19, 2);
        bench.open(0);
        Bench.lay(bench, 0, 1, 11);
        bench.approve(0, 1);
        bench.approve(0, 2);
        bench.approve(0, 3);
        Check.due("the present round", false, () -> bench.isStale(0, 1));
        Bench.lay(bench, 0, 11);
        Check.due("a line is removed", true, () -> bench.isStale(0, 1));
        Check.due("a line is kept", false, () -> bench.isStale(0, 2));
        Bench.lay(bench, 0, 11, 12);
        Check.due("a line is added", true, () -> bench.isStale(0, 2));
        Check.due("one that owns nothing", false, () -> bench.isStale(0, 3));
        bench.giveRange(1, 1, 3);
        Check.due("one that owns the line by now", true, () -> bench.isStale(0, 3));
        Check.due("one that owns it no more", false, () -> bench.isStale(0, 1));
        bench.approve(0, 3);
        Check.due("approved again", false, () -> bench.isStale(0, 3));
    }

    /** What is removed in one round and added again in a later one has changed all the same. */
    private static void isStaleRoundByRound() {
        ReviewBench bench = new ReviewBench();
        bench.giveRange(0, 9, 1);
        bench.open(0);
        Bench.lay(bench, 0, 1, 50);
        Bench.lay(bench, 0, 1, 51);
        bench.approve(0, 1);
        Bench.lay(bench, 0, 51);
        Check.due("removed", true, () -> bench.isStale(0, 1));
        Bench.lay(bench, 0, 1, 51);
        Check.due("added again", true, () -> bench.isStale(0, 1));
        Check.due("the rounds are the same", 0, () -> bench.edits(0, 1, 3));
        ReviewBench second = new ReviewBench();
        second.giveRange(0, 9, 1);
        second.open(0);
        Bench.lay(second, 0, 1);
        Bench.lay(second, 0, 2);
        second.approve(0, 1);
        Check.due("what changed before the approval", false, () -> second.isStale(0, 1));
        Bench.lay(second, 0, 50, 2);
        Check.due("a line of none is added", false, () -> second.isStale(0, 1));
        Bench.lay(second, 0, 2, 50);
        Check.due("a line of none is moved", false, () -> second.isStale(0, 1));
    }

    private static void isStaleThrows() {
        ReviewBench bench = new ReviewBench();
        Check.outOfBounds("isStale without a change", () -> bench.isStale(0, 0));
        bench.open(0);
        Check.noSuchElement("isStale without a round", () -> bench.isStale(0, 1));
        bench.lay(0);
        bench.approve(0, 1);
        for (int number : NO_NUMBERS) {
            Check.outOfBounds("isStale of change " + number, () -> bench.isStale(number, 1));
            Check.outOfBounds("isStale of user " + number, () -> bench.isStale(0, number));
        }
        Check.noSuchElement("isStale of one that has not approved", () -> bench.isStale(0, 2));
        Check.noSuchElement("isStale of the author", () -> bench.isStale(0, 0));
        bench.land(0);
        Check.due("isStale when it has landed", false, () -> bench.isStale(0, 1));
    }
}
