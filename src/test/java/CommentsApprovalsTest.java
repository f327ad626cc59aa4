/** Promises 8 to 11: comment, resolve, approve, withdraw. */
public final class CommentsApprovalsTest {
    private static final int[] NO_NUMBERS = {-1, 5, Integer.MIN_VALUE, Integer.MAX_VALUE};

    private CommentsApprovalsTest() {
    }

    public static void main(String[] args) {
        comment();
        commentThrows();
        resolve();
        approve();
        approveCountsWhatIsNotStale();
        approveThrows();
        withdraw();
        withdrawThrows();
        Check.end("CommentsApprovalsTest");
    }

    private static void comment() {
        ReviewBench bench = new ReviewBench();
        bench.open(0);
        bench.open(1);
        Bench.lay(bench, 0, 1, 2, 3);
        Bench.lay(bench, 1, 5);
        Check.due("comment 0", 0, () -> bench.comment(0, 2));
        Check.due("comment 1, of another change", 1, () -> bench.comment(1, 0));
        Check.due("comment 2, on the same line", 2, () -> bench.comment(0, 2));
        Check.due("it is open", true, () -> bench.isOpen(2));
        Check.due("its line", 2, () -> bench.placeIn(2, 0));
        Bench.lay(bench, 0, 3, 4);
        Check.due("comment 3, on the present round", 3, () -> bench.comment(0, 1));
        Check.due("the line of comment 3", 1, () -> bench.placeIn(3, 1));
        Check.noSuchElement("it is not in the round before", () -> bench.placeIn(3, 0));
        for (int number = 4; number < 12; number++) {
            int due = number;
            Check.due("comment " + number, due, () -> bench.comment(0, 0));
        }
        String state = Bench.state(bench);
        Check.illegalState("a comment too many", () -> bench.comment(0, 0));
        Check.illegalState("a comment too many on another change", () -> bench.comment(1, 0));
        Check.noSuchElement("a comment too many on no line", () -> bench.comment(0, 2));
        Check.outOfBounds("a comment too many on no change", () -> bench.comment(2, 0));
        Check.due("a comment too many changes nothing", state, () -> Bench.state(bench));
    }

    private static void commentThrows() {
        ReviewBench bench = new ReviewBench();
        Check.outOfBounds("comment without a change", () -> bench.comment(0, 0));
        bench.open(0);
        Check.noSuchElement("comment without a round", () -> bench.comment(0, 0));
        bench.addLine(0, 4);
        Check.noSuchElement("comment on the draft", () -> bench.comment(0, 0));
        bench.lay(0);
        for (int number : NO_NUMBERS) {
            Check.outOfBounds("comment on change " + number, () -> bench.comment(number, 0));
            Check.noSuchElement("comment on line " + number, () -> bench.comment(0, number));
        }
        Check.noSuchElement("comment behind the last line", () -> bench.comment(0, 1));
        bench.lay(0);
        Check.noSuchElement("comment on an empty round", () -> bench.comment(0, 0));
        Bench.lay(bench, 0, 4);
        bench.land(0);
        Check.illegalState("comment when it has landed", () -> bench.comment(0, 0));
        Check.noSuchElement("comment on no line when it has landed", () -> bench.comment(0, 1));
        Check.outOfBounds("no comment was made", () -> bench.isOpen(0));
    }

    private static void resolve() {
        ReviewBench bench = new ReviewBench();
        Check.outOfBounds("resolve without a comment", () -> bench.resolve(0));
        bench.open(0);
        bench.open(0);
        Bench.lay(bench, 0, 1, 2);
        Bench.lay(bench, 1, 1);
        bench.comment(0, 0);
        bench.comment(1, 0);
        bench.comment(0, 1);
        bench.comment(0, 1);
        Check.due("resolve 2", 2, () -> bench.resolve(2));
        for (int number : new int[] {-1, 4, 12, Integer.MIN_VALUE, Integer.MAX_VALUE}) {
            Check.outOfBounds("resolve of comment " + number, () -> bench.resolve(number));
        }
        Check.illegalState("resolve again", () -> bench.resolve(2));
        Check.due("the others stay open", 2, () -> bench.openComments(0));
        Check.due("resolve 0", 1, () -> bench.resolve(0));
        Check.due("resolve of another change's", 0, () -> bench.resolve(1));
        bench.lay(0);
        Check.due("resolve of a comment that is gone", 0, () -> bench.resolve(3));
    }

    private static void approve() {
        ReviewBench bench = new ReviewBench();
        bench.giveRange(0, 9, 1);
        bench.giveRange(10, 19, 2);
        bench.open(0);
        Bench.lay(bench, 0, 1, 11);
        Check.due("approve", 1, () -> bench.approve(0, 1));
        Check.due("approve again", 1, () -> bench.approve(0, 1));
        Check.due("approve of an owner that is not touched", 2, () -> bench.approve(0, 3));
        Check.due("approve of another", 3, () -> bench.approve(0, 2));
        Check.due("approve of the last", 4, () -> bench.approve(0, 4));
        Check.due("the author has not", false, () -> bench.hasApproved(0, 0));
        Bench.lay(bench, 0, 1, 12);
        Check.due("the approval of 2 is stale", true, () -> bench.isStale(0, 2));
        Check.due("that of 1 is not", false, () -> bench.isStale(0, 1));
        Check.due("approve replaces a stale one", 4, () -> bench.approve(0, 2));
        Check.due("it is not stale now", false, () -> bench.isStale(0, 2));
    }

    private static void approveCountsWhatIsNotStale() {
        ReviewBench bench = new ReviewBench();
        bench.giveRange(0, 9, 1);
        bench.giveRange(10, 19, 2);
        bench.open(0);
        bench.open(0);
        Bench.lay(bench, 0, 1, 11);
        Bench.lay(bench, 1, 1, 11);
        bench.approve(0, 1);
        bench.approve(0, 2);
        Check.due("the approvals of another change don't count", 1, () -> bench.approve(1, 3));
        Bench.lay(bench, 0, 11);
        Check.due("one that is stale does not count", 2, () -> bench.approve(0, 4));
        bench.giveRange(0, 19, 3);
        Check.due("what is stale depends on the ranges as they are now", 4, () -> bench.approve(0, 3));
    }

    private static void approveThrows() {
        ReviewBench bench = new ReviewBench();
        Check.outOfBounds("approve without a change", () -> bench.approve(0, 1));
        bench.open(2);
        Check.noSuchElement("approve without a round", () -> bench.approve(0, 1));
        Check.noSuchElement("approve of the author without a round", () -> bench.approve(0, 2));
        for (int number : NO_NUMBERS) {
            Check.outOfBounds("approve of change " + number, () -> bench.approve(number, 1));
            Check.outOfBounds("approve by user " + number, () -> bench.approve(0, number));
        }
        bench.lay(0);
        Check.illegalState("approve of the author", () -> bench.approve(0, 2));
        Check.due("the author has not", false, () -> bench.hasApproved(0, 2));
        bench.approve(0, 1);
        bench.land(0);
        Check.illegalState("approve when it has landed", () -> bench.approve(0, 3));
        Check.illegalState("approve again when it has landed", () -> bench.approve(0, 1));
        Check.outOfBounds("approve by user 5 when it has landed", () -> bench.approve(0, 5));
        Check.due("what threw approves nothing", false, () -> bench.hasApproved(0, 3));
    }

    private static void withdraw() {
        ReviewBench bench = new ReviewBench();
        bench.giveRange(0, 9, 1);
        bench.open(0);
        Bench.lay(bench, 0, 1);
        bench.approve(0, 1);
        bench.approve(0, 3);
        bench.approve(0, 4);
        Check.due("withdraw", 2, () -> bench.withdraw(0, 3));
        Check.due("it is taken back", false, () -> bench.hasApproved(0, 3));
        Check.due("the others are not", true, () -> bench.hasApproved(0, 4));
        Bench.lay(bench, 0, 2);
        Check.due("withdraw with a stale one left", 0, () -> bench.withdraw(0, 4));
        Check.due("withdraw of a stale one", 0, () -> bench.withdraw(0, 1));
        Check.noSuchElement("withdraw again", () -> bench.withdraw(0, 1));
        Check.due("approve after that", 1, () -> bench.approve(0, 1));
    }

    private static void withdrawThrows() {
        ReviewBench bench = new ReviewBench();
        Check.outOfBounds("withdraw without a change", () -> bench.withdraw(0, 1));
        bench.open(2);
        Check.noSuchElement("withdraw without a round", () -> bench.withdraw(0, 1));
        bench.lay(0);
        bench.approve(0, 1);
        for (int number : NO_NUMBERS) {
            Check.outOfBounds("withdraw of change " + number, () -> bench.withdraw(number, 1));
            Check.outOfBounds("withdraw by user " + number, () -> bench.withdraw(0, number));
        }
        Check.noSuchElement("withdraw of one that has not approved", () -> bench.withdraw(0, 3));
        Check.noSuchElement("withdraw of the author", () -> bench.withdraw(0, 2));
        bench.land(0);
        Check.illegalState("withdraw when it has landed", () -> bench.withdraw(0, 1));
        Check.noSuchElement("withdraw of one that has not approved when it has landed", () -> bench.withdraw(0, 3));
        Check.due("what threw takes nothing back", true, () -> bench.hasApproved(0, 1));
    }
}
