/** The boundary cases of promises 8 to 11, sentence by sentence. */
public final class BoundaryCommentsApprovalsTest {
    private static final int LEAST = Integer.MIN_VALUE;
    private static final int MOST = Integer.MAX_VALUE;
    private static final int[] NO_USERS = {-1, 5, LEAST, MOST};

    private BoundaryCommentsApprovalsTest() {
    }

    public static void main(String[] args) {
        Sentences.run(BoundaryCommentsApprovalsTest.class);
    }

    /** Change 0 with a round of two lines, change 1 without one, and so many comments on change 0. */
    private static ReviewBench withComments(int count) {
        ReviewBench bench = Bench.withRound(1, 2);
        bench.open(1);
        for (int comment = 0; comment < count; comment++) {
            bench.comment(0, comment % 2);
        }
        return bench;
    }

    /** Change 0 of user 0, which users 1 and 2 have approved, and change 1 of user 1 without a round. */
    private static ReviewBench withApprovals() {
        ReviewBench bench = Bench.withRound(1, 2);
        bench.giveRange(1, 1, 1);
        bench.giveRange(2, 2, 2);
        bench.approve(0, 1);
        bench.approve(0, 2);
        bench.open(1);
        return bench;
    }

    private static ReviewBench withLanded() {
        ReviewBench bench = withApprovals();
        bench.land(0);
        return bench;
    }

    // ---- promise 8

    @Holds(at = "Promise 8", sentence = "Comments on a line of the present round.")
    static void commentOnTheFirstAndTheLastLine() {
        ReviewBench bench = Bench.withRound(Bench.linesFrom(20, 12));
        bench.comment(0, 0);
        bench.comment(0, 11);
        Check.due("the first line", 0, () -> bench.placeIn(0, 0));
        Check.due("the last line", 11, () -> bench.placeIn(1, 0));
        Check.due("both are open", 2, () -> bench.openComments(0));
    }

    @Holds(at = "Promise 8", sentence = "Comments on a line of the present round.")
    static void commentOnTheLastOfAllRounds() {
        ReviewBench bench = Bench.withRound(1);
        Bench.lay(bench, 0, 2);
        Bench.lay(bench, 0, 3);
        Bench.lay(bench, 0, 4, 5);
        bench.comment(0, 1);
        Check.due("in the present round", 1, () -> bench.placeIn(0, 3));
        Check.noSuchElement("in the round before", () -> bench.placeIn(0, 2));
    }

    @Holds(at = "Promise 8", sentence = "Returns the number of the comment.")
    static void commentNumbersFromNoughtOverAllChanges() {
        ReviewBench bench = Bench.withRound(1);
        bench.open(0);
        Bench.lay(bench, 1, 2, 3);
        for (int comment = 0; comment < 12; comment++) {
            int due = comment;
            Check.due("comment", due, () -> bench.comment(due % 2, 0));
        }
        bench.resolve(11);
        Check.due("comments of one change", 6, () -> bench.openComments(0));
        Check.due("comments of the other one", 5, () -> bench.openComments(1));
    }

    @Holds(at = "Promise 8", sentence = "Throws IndexOutOfBoundsException if there is no such change")
    static void commentOnNoChange() {
        for (int change : new int[] {-1, 2, 3, LEAST, MOST}) {
            Refusal.outOfBounds("comment on change " + change, () -> withComments(1), bench -> bench.comment(change, 0));
        }
        Refusal.outOfBounds("comment on change 0 of none", ReviewBench::new, bench -> bench.comment(0, 0));
        Refusal.outOfBounds("comment on change 4 of four", () -> Bench.withChanges(4), bench -> bench.comment(4, 0));
    }

    @Holds(at = "Promise 8", sentence = "Throws NoSuchElementException if the change has no round,"
        + " or its present round does not have this line")
    static void commentWithoutARound() {
        Refusal.noSuchElement("without a round", () -> Bench.withChanges(1), bench -> bench.comment(0, 0));
        Refusal.noSuchElement("with a draft alone", () -> {
            ReviewBench bench = Bench.withChanges(1);
            bench.addLine(0, 1);
            return bench;
        }, bench -> bench.comment(0, 0));
        Refusal.noSuchElement("with a base alone", () -> {
            ReviewBench bench = Bench.withMain(1, 2);
            bench.open(0);
            return bench;
        }, bench -> bench.comment(1, 0));
        Refusal.noSuchElement("with another change's round", () -> withComments(1), bench -> bench.comment(1, 0));
    }

    @Holds(at = "Promise 8", sentence = "Throws NoSuchElementException if the change has no round,"
        + " or its present round does not have this line")
    static void commentOnNoLine() {
        for (int line : new int[] {-1, 2, 3, 11, 12, LEAST, MOST}) {
            Refusal.noSuchElement("comment on line " + line, () -> withComments(1), bench -> bench.comment(0, line));
        }
        Refusal.noSuchElement("comment on line 12 of twelve", () -> Bench.withRound(Bench.linesFrom(1, 12)),
            bench -> bench.comment(0, 12));
        Refusal.noSuchElement("comment on an empty round", Bench::withRound, bench -> bench.comment(0, 0));
    }

    @Holds(at = "Promise 8", sentence = "Throws NoSuchElementException if the change has no round,"
        + " or its present round does not have this line")
    static void commentOnALineThatOnlyAnotherTextHas() {
        Refusal.noSuchElement("the round before", () -> {
            ReviewBench bench = Bench.withRound(1, 2);
            Bench.lay(bench, 0, 1);
            return bench;
        }, bench -> bench.comment(0, 1));
        Refusal.noSuchElement("the draft", () -> {
            ReviewBench bench = Bench.withRound(1);
            Bench.draft(bench, 0, 1, 2);
            return bench;
        }, bench -> bench.comment(0, 1));
        Refusal.noSuchElement("the base", () -> {
            ReviewBench bench = Bench.withMain(1, 2);
            bench.open(0);
            Bench.lay(bench, 1, 1);
            return bench;
        }, bench -> bench.comment(1, 1));
    }

    @Holds(at = "Promise 8", sentence = "Throws IllegalStateException if the change has landed, or there are 12 comments")
    static void commentWhenItHasLanded() {
        Refusal.illegalState("comment", BoundaryCommentsApprovalsTest::withLanded, bench -> bench.comment(0, 0));
        Refusal.illegalState("on the last line", BoundaryCommentsApprovalsTest::withLanded,
            bench -> bench.comment(0, 1));
        ReviewBench bench = withLanded();
        Bench.lay(bench, 1, 1);
        Check.due("on another change", 0, () -> bench.comment(1, 0));
    }

    @Holds(at = "Promise 8", sentence = "Throws IllegalStateException if the change has landed, or there are 12 comments")
    static void commentAThirteenthTime() {
        Check.due("the twelfth", 11, () -> withComments(11).comment(0, 1));
        Refusal.illegalState("a thirteenth", () -> withComments(12), bench -> bench.comment(0, 0));
        Refusal.illegalState("a thirteenth, the first on this change", () -> {
            ReviewBench bench = withComments(12);
            Bench.lay(bench, 1, 1);
            return bench;
        }, bench -> bench.comment(1, 0));
        Refusal.illegalState("a thirteenth, when all are resolved", () -> {
            ReviewBench bench = withComments(12);
            for (int comment = 0; comment < 12; comment++) {
                bench.resolve(comment);
            }
            return bench;
        }, bench -> bench.comment(0, 0));
        Refusal.illegalState("a thirteenth, when all are gone", () -> {
            ReviewBench bench = withComments(12);
            Bench.lay(bench, 0, 3);
            return bench;
        }, bench -> bench.comment(0, 0));
    }

    @Holds(at = "Terms", sentence = "If several exceptions apply, the one that is listed first is thrown.")
    static void commentThrowsTheFirst() {
        Refusal.outOfBounds("no change, no line", () -> withComments(1), bench -> bench.comment(2, -1));
        Refusal.outOfBounds("no change, twelve comments", () -> withComments(12), bench -> bench.comment(2, 0));
        Refusal.noSuchElement("no line, landed", BoundaryCommentsApprovalsTest::withLanded,
            bench -> bench.comment(0, 2));
        Refusal.noSuchElement("no line, twelve comments", () -> withComments(12), bench -> bench.comment(0, -1));
        Refusal.noSuchElement("no round, twelve comments", () -> withComments(12), bench -> bench.comment(1, 0));
    }

    // ---- promise 9

    @Holds(at = "Promise 9", sentence = "Resolves a comment.")
    static void resolveOfTheFirstAndTheLastComment() {
        for (int comment : new int[] {0, 11}) {
            ReviewBench bench = withComments(12);
            Check.due("resolve", 11, () -> bench.resolve(comment));
            Check.due("it is not open", false, () -> bench.isOpen(comment));
            Check.due("the other end is", true, () -> bench.isOpen(11 - comment));
        }
    }

    @Holds(at = "Promise 9", sentence = "Returns the number of open comments of its change.")
    static void resolveCountsDownToNought() {
        ReviewBench bench = withComments(12);
        for (int comment = 0; comment < 12; comment++) {
            int next = comment;
            Check.due("resolve " + next, 11 - next, () -> bench.resolve(next));
        }
    }

    @Holds(at = "Promise 9", sentence = "Returns the number of open comments of its change.")
    static void resolveCountsItsChangeAlone() {
        ReviewBench bench = withComments(3);
        Bench.lay(bench, 1, 1);
        bench.comment(1, 0);
        bench.comment(1, 0);
        Check.due("one of the other change", 1, () -> bench.resolve(3));
        Check.due("one of the first change", 2, () -> bench.resolve(1));
        Check.due("the last of the other change", 0, () -> bench.resolve(4));
    }

    @Holds(at = "Promise 9", sentence = "Returns the number of open comments of its change.")
    static void resolveCountsThoseThatAreGone() {
        ReviewBench bench = withComments(3);
        bench.lay(0);
        Check.due("one that is gone", 2, () -> bench.resolve(1));
        Check.due("the next one", 1, () -> bench.resolve(0));
        Check.due("the last one", 0, () -> bench.resolve(2));
    }

    @Holds(at = "Promise 9", sentence = "Throws IndexOutOfBoundsException if there is no such comment")
    static void resolveOfNoComment() {
        for (int comment : new int[] {-1, 2, 3, 11, 12, LEAST, MOST}) {
            Refusal.outOfBounds("resolve of comment " + comment, () -> withComments(2), bench -> bench.resolve(comment));
        }
        Refusal.outOfBounds("resolve of comment 0 of none", () -> withComments(0), bench -> bench.resolve(0));
        Refusal.outOfBounds("resolve of comment 12 of twelve", () -> withComments(12), bench -> bench.resolve(12));
    }

    @Holds(at = "Promise 9", sentence = "Throws IllegalStateException if it is resolved")
    static void resolveAgain() {
        Refusal.illegalState("again", () -> {
            ReviewBench bench = withComments(2);
            bench.resolve(0);
            return bench;
        }, bench -> bench.resolve(0));
        Refusal.illegalState("again when the change has landed", () -> {
            ReviewBench bench = withComments(1);
            bench.resolve(0);
            bench.land(0);
            return bench;
        }, bench -> bench.resolve(0));
    }

    // ---- promise 10

    @Holds(at = "Promise 10", sentence = "Approves the present round of a change.")
    static void approveOfTheFirstAndTheLastRound() {
        ReviewBench bench = withApprovals();
        Check.due("the first round is approved", false, () -> bench.isStale(0, 1));
        Bench.lay(bench, 0, 2);
        Bench.lay(bench, 0, 2, 3);
        Bench.lay(bench, 0, 2, 1);
        Check.due("it is stale", true, () -> bench.isStale(0, 1));
        bench.approve(0, 1);
        Check.due("the fourth round is approved", false, () -> bench.isStale(0, 1));
    }

    @Holds(at = "Promise 10", sentence = "Approves the present round of a change.")
    static void approveOfAnEmptyRound() {
        ReviewBench bench = Bench.withRound();
        Check.due("approve", 1, () -> bench.approve(0, 4));
        Check.due("it has been approved", true, () -> bench.hasApproved(0, 4));
    }

    @Holds(at = "Promise 10", sentence = "Approves the present round of a change.")
    static void approveByTheLeastAndTheGreatestUser() {
        ReviewBench bench = Bench.withChanges(0);
        bench.open(2);
        bench.lay(0);
        Check.due("the least", 1, () -> bench.approve(0, 0));
        Check.due("the greatest", 2, () -> bench.approve(0, 4));
        Check.due("the least has", true, () -> bench.hasApproved(0, 0));
        Check.due("one between has not", false, () -> bench.hasApproved(0, 1));
        Check.due("the greatest has", true, () -> bench.hasApproved(0, 4));
    }

    @Holds(at = "Promise 10", sentence = "Returns the number of approvals of the change that are not stale.")
    static void approveCountsUpToAllButTheAuthor() {
        ReviewBench bench = Bench.withRound(1);
        for (int user = 1; user <= 4; user++) {
            int next = user;
            Check.due("approve by " + next, next, () -> bench.approve(0, next));
            Check.due("approve again by " + next, next, () -> bench.approve(0, next));
        }
    }

    @Holds(at = "Promise 10", sentence = "Returns the number of approvals of the change that are not stale.")
    static void approveDoesNotCountStaleOnes() {
        ReviewBench bench = withApprovals();
        Bench.lay(bench, 0, 2);
        Check.due("with one stale, one not", 2, () -> bench.approve(0, 3));
        bench.lay(0);
        Check.due("with two stale, one not", 2, () -> bench.approve(0, 4));
        Check.due("one of the two again", 3, () -> bench.approve(0, 2));
    }

    @Holds(at = "Promise 10", sentence = "Returns the number of approvals of the change that are not stale.")
    static void approveCountsItsChangeAlone() {
        ReviewBench bench = withApprovals();
        Bench.lay(bench, 1, 1);
        Check.due("the first of another change", 1, () -> bench.approve(1, 2));
        Check.due("the third of the one", 3, () -> bench.approve(0, 3));
    }

    @Holds(at = "Promise 10", sentence = "Throws IndexOutOfBoundsException if there is no such change or user")
    static void approveOfNoChangeOrByNoUser() {
        for (int change : new int[] {-1, 2, 3, LEAST, MOST}) {
            Refusal.outOfBounds("approve of change " + change, BoundaryCommentsApprovalsTest::withApprovals,
                bench -> bench.approve(change, 3));
        }
        for (int user : NO_USERS) {
            Refusal.outOfBounds("approve by user " + user, BoundaryCommentsApprovalsTest::withApprovals,
                bench -> bench.approve(0, user));
        }
        Refusal.outOfBounds("approve of change 0 of none", ReviewBench::new, bench -> bench.approve(0, 1));
        Refusal.outOfBounds("approve of change 4 of four", () -> Bench.withChanges(4), bench -> bench.approve(4, 1));
    }

    @Holds(at = "Promise 10", sentence = "Throws NoSuchElementException if the change has no round")
    static void approveWithoutARound() {
        Refusal.noSuchElement("without a round", BoundaryCommentsApprovalsTest::withApprovals,
            bench -> bench.approve(1, 2));
        Refusal.noSuchElement("with a draft alone", () -> {
            ReviewBench bench = withApprovals();
            bench.addLine(1, 5);
            return bench;
        }, bench -> bench.approve(1, 2));
    }

    @Holds(at = "Promise 10",
        sentence = "Throws IllegalStateException if the change has landed, or the user is its author")
    static void approveWhenItHasLanded() {
        Refusal.illegalState("for the first time", BoundaryCommentsApprovalsTest::withLanded,
            bench -> bench.approve(0, 3));
        Refusal.illegalState("again", BoundaryCommentsApprovalsTest::withLanded, bench -> bench.approve(0, 1));
        Refusal.illegalState("by the author", BoundaryCommentsApprovalsTest::withLanded, bench -> bench.approve(0, 0));
    }

    @Holds(at = "Promise 10",
        sentence = "Throws IllegalStateException if the change has landed, or the user is its author")
    static void approveByTheAuthor() {
        for (int author = 0; author < 5; author++) {
            int user = author;
            Refusal.illegalState("author " + user, () -> {
                ReviewBench bench = new ReviewBench();
                bench.giveRange(0, 99, user);
                bench.open(user);
                Bench.lay(bench, 0, 1);
                return bench;
            }, bench -> bench.approve(0, user));
        }
        ReviewBench bench = withApprovals();
        Bench.lay(bench, 1, 3);
        Check.due("the author of another change", 1, () -> bench.approve(1, 0));
    }

    @Holds(at = "Terms", sentence = "If several exceptions apply, the one that is listed first is thrown.")
    static void approveThrowsTheFirst() {
        Refusal.outOfBounds("no user, no round", BoundaryCommentsApprovalsTest::withApprovals,
            bench -> bench.approve(1, 5));
        Refusal.outOfBounds("no user, landed", BoundaryCommentsApprovalsTest::withLanded, bench -> bench.approve(0, -1));
        Refusal.outOfBounds("no change, no user", BoundaryCommentsApprovalsTest::withApprovals,
            bench -> bench.approve(9, 9));
        Refusal.noSuchElement("no round, the author", BoundaryCommentsApprovalsTest::withApprovals,
            bench -> bench.approve(1, 1));
    }

    // ---- promise 11

    @Holds(at = "Promise 11", sentence = "Takes an approval back.")
    static void withdrawTakesBackOneAlone() {
        ReviewBench bench = withApprovals();
        bench.withdraw(0, 1);
        Check.due("it is taken back", false, () -> bench.hasApproved(0, 1));
        Check.due("the other one is not", true, () -> bench.hasApproved(0, 2));
        Check.due("it is missing", 1, () -> bench.missingUser(0));
        Check.due("it can be given again", 2, () -> bench.approve(0, 1));
    }

    @Holds(at = "Promise 11", sentence = "Takes an approval back.")
    static void withdrawByTheLeastAndTheGreatestUser() {
        ReviewBench bench = new ReviewBench();
        bench.open(2);
        bench.lay(0);
        bench.approve(0, 0);
        bench.approve(0, 4);
        Check.due("the greatest", 1, () -> bench.withdraw(0, 4));
        Check.due("the least", 0, () -> bench.withdraw(0, 0));
    }

    @Holds(at = "Promise 11", sentence = "Returns the number of approvals of the change that are not stale.")
    static void withdrawCountsDownToNought() {
        ReviewBench bench = withApprovals();
        bench.approve(0, 3);
        Check.due("two are left", 2, () -> bench.withdraw(0, 1));
        Check.due("one is left", 1, () -> bench.withdraw(0, 3));
        Check.due("none is left", 0, () -> bench.withdraw(0, 2));
    }

    @Holds(at = "Promise 11", sentence = "Returns the number of approvals of the change that are not stale.")
    static void withdrawDoesNotCountStaleOnes() {
        ReviewBench bench = withApprovals();
        bench.approve(0, 3);
        bench.approve(0, 4);
        Bench.lay(bench, 0, 2);
        Check.due("a stale one taken back", 3, () -> bench.withdraw(0, 1));
        bench.lay(0);
        Check.due("with a stale one left", 1, () -> bench.withdraw(0, 4));
        Check.due("with a stale one alone left", 0, () -> bench.withdraw(0, 3));
    }

    @Holds(at = "Promise 11", sentence = "Throws IndexOutOfBoundsException if there is no such change or user")
    static void withdrawOfNoChangeOrByNoUser() {
        for (int change : new int[] {-1, 2, 3, LEAST, MOST}) {
            Refusal.outOfBounds("withdraw of change " + change, BoundaryCommentsApprovalsTest::withApprovals,
                bench -> bench.withdraw(change, 1));
        }
        for (int user : NO_USERS) {
            Refusal.outOfBounds("withdraw by user " + user, BoundaryCommentsApprovalsTest::withApprovals,
                bench -> bench.withdraw(0, user));
        }
        Refusal.outOfBounds("withdraw of change 0 of none", ReviewBench::new, bench -> bench.withdraw(0, 1));
        Refusal.outOfBounds("withdraw of change 4 of four", () -> Bench.withChanges(4), bench -> bench.withdraw(4, 1));
    }

    @Holds(at = "Promise 11", sentence = "Throws NoSuchElementException if the user has not approved it")
    static void withdrawOfNone() {
        Refusal.noSuchElement("never approved", BoundaryCommentsApprovalsTest::withApprovals,
            bench -> bench.withdraw(0, 3));
        Refusal.noSuchElement("the author", BoundaryCommentsApprovalsTest::withApprovals,
            bench -> bench.withdraw(0, 0));
        Refusal.noSuchElement("another change's", BoundaryCommentsApprovalsTest::withApprovals,
            bench -> bench.withdraw(1, 2));
        Refusal.noSuchElement("again", () -> {
            ReviewBench bench = withApprovals();
            bench.withdraw(0, 1);
            return bench;
        }, bench -> bench.withdraw(0, 1));
    }

    @Holds(at = "Promise 11", sentence = "Throws IllegalStateException if the change has landed")
    static void withdrawWhenItHasLanded() {
        Refusal.illegalState("withdraw", BoundaryCommentsApprovalsTest::withLanded, bench -> bench.withdraw(0, 1));
        ReviewBench bench = withLanded();
        Check.illegalState("withdraw", () -> bench.withdraw(0, 2));
        Check.due("it is not taken back", true, () -> bench.hasApproved(0, 2));
    }

    @Holds(at = "Terms", sentence = "If several exceptions apply, the one that is listed first is thrown.")
    static void withdrawThrowsTheFirst() {
        Refusal.outOfBounds("no user, who has not approved", BoundaryCommentsApprovalsTest::withApprovals,
            bench -> bench.withdraw(1, 5));
        Refusal.outOfBounds("no user, landed", BoundaryCommentsApprovalsTest::withLanded,
            bench -> bench.withdraw(0, -1));
        Refusal.noSuchElement("not approved, landed", BoundaryCommentsApprovalsTest::withLanded,
            bench -> bench.withdraw(0, 3));
        Refusal.noSuchElement("the author, landed", BoundaryCommentsApprovalsTest::withLanded,
            bench -> bench.withdraw(0, 0));
    }
}
