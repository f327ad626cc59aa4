/** The boundary cases of promises 26 to 31, sentence by sentence. */
public final class BoundaryAskedTest {
    private static final int LEAST = Integer.MIN_VALUE;
    private static final int MOST = Integer.MAX_VALUE;
    private static final int[] NO_USERS = {-1, 5, LEAST, MOST};

    private BoundaryAskedTest() {
    }

    public static void main(String[] args) {
        Sentences.run(BoundaryAskedTest.class);
    }

    /**
     * Change 0 with rounds "1 2 3", "9 1 3" and "5 9", and comments 0 to 2 on the lines of the first round and
     * comment 3 on the last line of the second one; change 1, of user 1, without a round.
     */
    private static ReviewBench withPlaces() {
        ReviewBench bench = Bench.withRound(1, 2, 3);
        for (int line = 0; line < 3; line++) {
            bench.comment(0, line);
        }
        Bench.lay(bench, 0, 9, 1, 3);
        bench.comment(0, 2);
        Bench.lay(bench, 0, 5, 9);
        bench.open(1);
        return bench;
    }

    /** Change 0, of user 0, which users 1 and 4 have approved, and change 1, of user 1, without a round. */
    private static ReviewBench withApprovals() {
        ReviewBench bench = Bench.withRound(1, 2);
        bench.giveRange(1, 1, 1);
        bench.giveRange(2, 2, 4);
        bench.approve(0, 1);
        bench.approve(0, 4);
        bench.open(1);
        return bench;
    }

    private static void placeIs(ReviewBench bench, int comment, int round, int due) {
        String asked = "(" + comment + ", " + round + ")";
        Check.due("placeIn" + asked, due, () -> bench.placeIn(comment, round));
        Check.due("placeByComparing" + asked, due, () -> bench.placeByComparing(comment, round));
    }

    // ---- promises 26 and 27

    @Holds(at = "Promise 26", sentence = "Returns where a comment is in a round, found round by round.")
    static void placesFromTheFirstToTheLastLine() {
        ReviewBench bench = Bench.withRound(Bench.linesFrom(10, 12));
        bench.comment(0, 0);
        bench.comment(0, 11);
        Bench.lay(bench, 0, 21, 10, 11, 12, 13, 14, 15, 16, 17, 18, 19, 20);
        bench.comment(0, 11);
        Bench.lay(bench, 0, 20);
        placeIs(bench, 0, 0, 0);
        placeIs(bench, 1, 0, 11);
        placeIs(bench, 0, 1, 1);
        placeIs(bench, 2, 1, 11);
        placeIs(bench, 2, 2, 0);
    }

    @Holds(at = "Promise 26", sentence = "Returns the number of the line.")
    static void placesFromTheFirstToTheLastRound() {
        ReviewBench bench = Bench.withRound(1, 2);
        bench.comment(0, 0);
        Bench.lay(bench, 0, 5, 1);
        Bench.lay(bench, 0, 5, 6, 1);
        Bench.lay(bench, 0, 5, 6, 7, 1);
        for (int round = 0; round < 4; round++) {
            placeIs(bench, 0, round, round);
        }
        bench.comment(0, 3);
        placeIs(bench, 1, 3, 3);
    }

    @Holds(at = "Promise 27", sentence = "Returns the same, found by comparing, for each line of the round,"
        + " whole texts backwards.")
    static void placesOfLinesThatAreTheSame() {
        ReviewBench bench = Bench.withRound(1, 1, 1);
        for (int line = 0; line < 3; line++) {
            bench.comment(0, line);
        }
        Bench.lay(bench, 0, 1, 1);
        Bench.lay(bench, 0, 1, 1, 1);
        for (int round = 0; round < 3; round++) {
            placeIs(bench, 0, round, 0);
            placeIs(bench, 1, round, 1);
        }
        placeIs(bench, 2, 0, 2);
        Check.noSuchElement("placeIn of the third", () -> bench.placeIn(2, 1));
        Check.noSuchElement("placeByComparing of the third", () -> bench.placeByComparing(2, 1));
        Check.noSuchElement("placeIn of the third later", () -> bench.placeIn(2, 2));
        Check.noSuchElement("placeByComparing of the third later", () -> bench.placeByComparing(2, 2));
    }

    @Holds(at = "Promise 27", sentence = "Returns the number of the line.")
    static void placeByComparingWhenItHasLanded() {
        ReviewBench bench = Bench.withRound(1, 2);
        bench.comment(0, 1);
        Bench.lay(bench, 0, 2);
        bench.resolve(0);
        bench.land(0);
        placeIs(bench, 0, 0, 1);
        placeIs(bench, 0, 1, 0);
    }

    @Holds(at = "Promise 26", sentence = "Throws IndexOutOfBoundsException if there is no such comment")
    static void placeInOfNoComment() {
        for (int comment : new int[] {-1, 4, 5, 11, 12, LEAST, MOST}) {
            Refusal.outOfBounds("placeIn of comment " + comment, BoundaryAskedTest::withPlaces,
                bench -> bench.placeIn(comment, 0));
        }
        Refusal.outOfBounds("placeIn of comment 0 of none", () -> Bench.withRound(1), bench -> bench.placeIn(0, 0));
        Refusal.outOfBounds("placeIn of comment 12 of twelve", BoundaryAskedTest::withTwelve,
            bench -> bench.placeIn(12, 0));
        placeIs(withTwelve(), 11, 0, 0);
    }

    private static ReviewBench withTwelve() {
        ReviewBench bench = Bench.withRound(1);
        for (int comment = 0; comment < 12; comment++) {
            bench.comment(0, 0);
        }
        return bench;
    }

    @Holds(at = "Promise 27", sentence = "Throws IndexOutOfBoundsException if there is no such comment")
    static void placeByComparingOfNoComment() {
        for (int comment : new int[] {-1, 4, 5, 11, 12, LEAST, MOST}) {
            Refusal.outOfBounds("placeByComparing of comment " + comment, BoundaryAskedTest::withPlaces,
                bench -> bench.placeByComparing(comment, 0));
        }
        Refusal.outOfBounds("placeByComparing of comment 0 of none", () -> Bench.withRound(1),
            bench -> bench.placeByComparing(0, 0));
        Refusal.outOfBounds("placeByComparing of comment 12 of twelve", BoundaryAskedTest::withTwelve,
            bench -> bench.placeByComparing(12, 0));
    }

    @Holds(at = "Promise 26", sentence = "Throws NoSuchElementException if its change has no such round,"
        + " or the comment was made in a later one, or is gone in it")
    static void placeInWhereItIsNot() {
        for (int round : new int[] {-1, 3, 4, LEAST, MOST}) {
            Refusal.noSuchElement("placeIn, round " + round, BoundaryAskedTest::withPlaces,
                bench -> bench.placeIn(0, round));
        }
        Refusal.noSuchElement("in the round before", BoundaryAskedTest::withPlaces, bench -> bench.placeIn(3, 0));
        Refusal.noSuchElement("gone in the next round", BoundaryAskedTest::withPlaces, bench -> bench.placeIn(1, 1));
        Refusal.noSuchElement("gone, and in a later one", BoundaryAskedTest::withPlaces, bench -> bench.placeIn(1, 2));
        Refusal.noSuchElement("gone in a later round", BoundaryAskedTest::withPlaces, bench -> bench.placeIn(2, 2));
        placeIs(withPlaces(), 2, 1, 2);
        placeIs(withPlaces(), 3, 1, 2);
    }

    @Holds(at = "Promise 27", sentence = "Throws NoSuchElementException if its change has no such round,"
        + " or the comment was made in a later one, or is gone in it")
    static void placeByComparingWhereItIsNot() {
        for (int round : new int[] {-1, 3, 4, LEAST, MOST}) {
            Refusal.noSuchElement("placeByComparing, round " + round, BoundaryAskedTest::withPlaces,
                bench -> bench.placeByComparing(0, round));
        }
        Refusal.noSuchElement("in the round before", BoundaryAskedTest::withPlaces,
            bench -> bench.placeByComparing(3, 0));
        Refusal.noSuchElement("gone in the next round", BoundaryAskedTest::withPlaces,
            bench -> bench.placeByComparing(1, 1));
        Refusal.noSuchElement("gone, and in a later one", BoundaryAskedTest::withPlaces,
            bench -> bench.placeByComparing(1, 2));
        Refusal.noSuchElement("gone in a later round", BoundaryAskedTest::withPlaces,
            bench -> bench.placeByComparing(2, 2));
    }

    @Holds(at = "Promise 26", sentence = "Throws NoSuchElementException if its change has no such round,"
        + " or the comment was made in a later one, or is gone in it")
    static void placesInARoundThatOnlyAnotherChangeHas() {
        ReviewBench bench = Bench.withRound(1);
        bench.comment(0, 0);
        bench.open(0);
        Bench.lay(bench, 1, 1);
        Bench.lay(bench, 1, 1);
        Check.noSuchElement("placeIn", () -> bench.placeIn(0, 1));
        Check.noSuchElement("placeByComparing", () -> bench.placeByComparing(0, 1));
        bench.comment(1, 0);
        placeIs(bench, 1, 1, 0);
        Check.noSuchElement("placeIn of the other change's, in the round before", () -> bench.placeIn(1, 0));
    }

    @Holds(at = "Terms", sentence = "If several exceptions apply, the one that is listed first is thrown.")
    static void questionsAboutCommentsAndApprovalsThrowTheFirst() {
        Refusal.outOfBounds("placeIn: no comment, no round", BoundaryAskedTest::withPlaces,
            bench -> bench.placeIn(4, 3));
        Refusal.outOfBounds("placeByComparing: no comment, no round", BoundaryAskedTest::withPlaces,
            bench -> bench.placeByComparing(-1, -1));
        Refusal.outOfBounds("isStale: no user, who has not approved", BoundaryAskedTest::withApprovals,
            bench -> bench.isStale(0, 5));
        Refusal.outOfBounds("isStale: no change", BoundaryAskedTest::withApprovals, bench -> bench.isStale(2, 2));
    }

    // ---- promise 28

    @Holds(at = "Promise 28", sentence = "Returns true if it is.")
    static void isOpenFirstAndLast() {
        ReviewBench bench = withTwelve();
        bench.resolve(11);
        Check.due("the first", true, () -> bench.isOpen(0));
        Check.due("the last, resolved", false, () -> bench.isOpen(11));
        bench.resolve(0);
        Check.due("the first, resolved", false, () -> bench.isOpen(0));
        Check.due("the one before the last", true, () -> bench.isOpen(10));
    }

    @Holds(at = "Promise 28", sentence = "Returns whether a comment is open.")
    static void isOpenWhenGoneResolvedOrLanded() {
        ReviewBench bench = withPlaces();
        for (int comment = 0; comment < 4; comment++) {
            int asked = comment;
            Check.due("open, gone or not", true, () -> bench.isOpen(asked));
            bench.resolve(asked);
            Check.due("resolved", false, () -> bench.isOpen(asked));
        }
        bench.land(0);
        Check.due("landed", false, () -> bench.isOpen(3));
    }

    @Holds(at = "Promise 28", sentence = "Throws IndexOutOfBoundsException if there is no such comment")
    static void isOpenOfNoComment() {
        for (int comment : new int[] {-1, 4, 5, 11, 12, LEAST, MOST}) {
            Refusal.outOfBounds("isOpen of comment " + comment, BoundaryAskedTest::withPlaces,
                bench -> bench.isOpen(comment));
        }
        Refusal.outOfBounds("isOpen of comment 0 of none", ReviewBench::new, bench -> bench.isOpen(0));
        Refusal.outOfBounds("isOpen of comment 12 of twelve", BoundaryAskedTest::withTwelve, bench -> bench.isOpen(12));
    }

    // ---- promise 29

    @Holds(at = "Promise 29", sentence = "Returns the number of comments.")
    static void openCommentsFromNoneToTwelve() {
        ReviewBench bench = Bench.withRound(1);
        bench.open(0);
        Check.due("none", 0, () -> bench.openComments(0));
        for (int comment = 1; comment <= 12; comment++) {
            bench.comment(0, 0);
            Check.due("openComments", comment, () -> bench.openComments(0));
        }
        Check.due("the other change's", 0, () -> bench.openComments(1));
    }

    @Holds(at = "Promise 29", sentence = "Returns the number of open comments of a change.")
    static void openCommentsThatAreGoneOrResolved() {
        ReviewBench bench = withPlaces();
        Check.due("gone or not", 4, () -> bench.openComments(0));
        bench.resolve(1);
        Check.due("one that is gone is resolved", 3, () -> bench.openComments(0));
        bench.resolve(0);
        bench.resolve(2);
        bench.resolve(3);
        Check.due("all are resolved", 0, () -> bench.openComments(0));
        bench.land(0);
        Check.due("when it has landed", 0, () -> bench.openComments(0));
    }

    @Holds(at = "Promise 29", sentence = "Throws IndexOutOfBoundsException if there is no such change")
    static void openCommentsOfNoChange() {
        for (int change : new int[] {-1, 2, 3, LEAST, MOST}) {
            Refusal.outOfBounds("openComments of change " + change, BoundaryAskedTest::withPlaces,
                bench -> bench.openComments(change));
        }
        Refusal.outOfBounds("openComments of change 0 of none", ReviewBench::new, bench -> bench.openComments(0));
        Refusal.outOfBounds("openComments of change 4 of four", () -> Bench.withChanges(4),
            bench -> bench.openComments(4));
    }

    // ---- promise 30

    @Holds(at = "Promise 30", sentence = "Returns true if the user has.")
    static void hasApprovedOfEachUser() {
        ReviewBench bench = withApprovals();
        boolean[] due = {false, true, false, false, true};
        for (int user = 0; user < 5; user++) {
            int asked = user;
            Check.due("user " + asked, due[asked], () -> bench.hasApproved(0, asked));
            Check.due("user " + asked + ", without a round", false, () -> bench.hasApproved(1, asked));
        }
    }

    @Holds(at = "Promise 30", sentence = "Returns whether a user has approved a change, stale or not.")
    static void hasApprovedStaleTakenBackOrLanded() {
        ReviewBench bench = withApprovals();
        Bench.lay(bench, 0, 2);
        Check.due("it is stale", true, () -> bench.isStale(0, 1));
        Check.due("stale", true, () -> bench.hasApproved(0, 1));
        bench.withdraw(0, 1);
        Check.due("taken back", false, () -> bench.hasApproved(0, 1));
        bench.land(0);
        Check.due("landed", true, () -> bench.hasApproved(0, 4));
    }

    @Holds(at = "Promise 30", sentence = "Throws IndexOutOfBoundsException if there is no such change or user")
    static void hasApprovedOfNoChangeOrByNoUser() {
        for (int change : new int[] {-1, 2, 3, LEAST, MOST}) {
            Refusal.outOfBounds("hasApproved of change " + change, BoundaryAskedTest::withApprovals,
                bench -> bench.hasApproved(change, 1));
        }
        for (int user : NO_USERS) {
            Refusal.outOfBounds("hasApproved by user " + user, BoundaryAskedTest::withApprovals,
                bench -> bench.hasApproved(0, user));
            Refusal.outOfBounds("hasApproved by user " + user + " without a round", BoundaryAskedTest::withApprovals,
                bench -> bench.hasApproved(1, user));
        }
        Refusal.outOfBounds("hasApproved of change 0 of none", ReviewBench::new, bench -> bench.hasApproved(0, 0));
        Refusal.outOfBounds("hasApproved of change 4 of four", () -> Bench.withChanges(4),
            bench -> bench.hasApproved(4, 0));
    }

    // ---- promise 31

    @Holds(at = "Promise 31", sentence = "Returns true if it is.")
    static void isStaleOfTheLeastAndTheGreatestUser() {
        ReviewBench bench = new ReviewBench();
        bench.giveRange(1, 1, 0);
        bench.giveRange(2, 2, 4);
        bench.open(2);
        Bench.lay(bench, 0, 1, 2);
        bench.approve(0, 0);
        bench.approve(0, 4);
        Check.due("the least, at first", false, () -> bench.isStale(0, 0));
        Check.due("the greatest, at first", false, () -> bench.isStale(0, 4));
        Bench.lay(bench, 0, 2);
        Check.due("the least, a line removed", true, () -> bench.isStale(0, 0));
        Check.due("the greatest, a line kept", false, () -> bench.isStale(0, 4));
        Bench.lay(bench, 0, 2, 2);
        Check.due("the greatest, a line added", true, () -> bench.isStale(0, 4));
    }

    @Holds(at = "Promise 31", sentence = "Returns true if it is.")
    static void isStaleFromTheFirstToTheLastRound() {
        for (int changed = 1; changed < 4; changed++) {
            ReviewBench bench = Bench.withRound(1);
            bench.giveRange(0, 9, 3);
            bench.approve(0, 3);
            for (int round = 1; round < 4; round++) {
                boolean due = round >= changed;
                Bench.lay(bench, 0, due ? 2 : 1);
                Check.due("changed in round " + changed + ", asked in " + round, due, () -> bench.isStale(0, 3));
            }
        }
    }

    @Holds(at = "Promise 31", sentence = "Returns true if it is.")
    static void isStaleWhenItHasLanded() {
        ReviewBench bench = withApprovals();
        bench.approve(0, 2);
        Bench.lay(bench, 0, 1, 2, 3);
        bench.land(0);
        Check.due("not stale", false, () -> bench.isStale(0, 2));
        bench.giveRange(3, 3, 2);
        Check.due("stale by a range given later", true, () -> bench.isStale(0, 2));
    }

    @Holds(at = "Promise 31", sentence = "Returns whether the approval of a user is stale.")
    static void isStaleOfTheNamedUserAndChange() {
        ReviewBench bench = withApprovals();
        bench.approve(0, 3);
        Bench.lay(bench, 1, 1, 2);
        bench.approve(1, 4);
        Bench.lay(bench, 0, 1);
        Check.due("no line of user 1 is removed", false, () -> bench.isStale(0, 1));
        Check.due("a line of user 4 is", true, () -> bench.isStale(0, 4));
        Check.due("user 3 has no line", false, () -> bench.isStale(0, 3));
        Check.due("the other change's approval", false, () -> bench.isStale(1, 4));
        bench.giveRange(2, 2, 3);
        Check.due("by the ranges as they are now", false, () -> bench.isStale(0, 4));
        Check.due("by the ranges as they are now, user 3", true, () -> bench.isStale(0, 3));
    }

    @Holds(at = "Promise 31", sentence = "Throws IndexOutOfBoundsException if there is no such change or user")
    static void isStaleOfNoChangeOrByNoUser() {
        for (int change : new int[] {-1, 2, 3, LEAST, MOST}) {
            Refusal.outOfBounds("isStale of change " + change, BoundaryAskedTest::withApprovals,
                bench -> bench.isStale(change, 1));
        }
        for (int user : NO_USERS) {
            Refusal.outOfBounds("isStale by user " + user, BoundaryAskedTest::withApprovals,
                bench -> bench.isStale(0, user));
            Refusal.outOfBounds("isStale by user " + user + " without a round", BoundaryAskedTest::withApprovals,
                bench -> bench.isStale(1, user));
        }
        Refusal.outOfBounds("isStale of change 0 of none", ReviewBench::new, bench -> bench.isStale(0, 0));
        Refusal.outOfBounds("isStale of change 4 of four", () -> Bench.withChanges(4), bench -> bench.isStale(4, 0));
    }

    @Holds(at = "Promise 31", sentence = "Throws NoSuchElementException if the user has not approved it")
    static void isStaleOfNone() {
        Refusal.noSuchElement("never approved", BoundaryAskedTest::withApprovals, bench -> bench.isStale(0, 3));
        Refusal.noSuchElement("the author", BoundaryAskedTest::withApprovals, bench -> bench.isStale(0, 0));
        Refusal.noSuchElement("without a round", BoundaryAskedTest::withApprovals, bench -> bench.isStale(1, 4));
        Refusal.noSuchElement("taken back", () -> {
            ReviewBench bench = withApprovals();
            bench.withdraw(0, 4);
            return bench;
        }, bench -> bench.isStale(0, 4));
    }
}
