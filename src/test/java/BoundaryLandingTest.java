/** The boundary cases of promises 12 to 16, sentence by sentence. Reasons and merging are in BoundaryMergingTest. */
public final class BoundaryLandingTest {
    private static final int LEAST = Integer.MIN_VALUE;
    private static final int MOST = Integer.MAX_VALUE;

    private BoundaryLandingTest() {
    }

    public static void main(String[] args) {
        Sentences.run(BoundaryLandingTest.class);
    }

    private static ReviewBench withEmptyRounds(int count) {
        ReviewBench bench = Bench.withChanges(count);
        for (int change = 0; change < count; change++) {
            bench.lay(change);
        }
        return bench;
    }

    private static ReviewBench withOpenComment() {
        ReviewBench bench = Bench.withRound(1);
        bench.comment(0, 0);
        return bench;
    }

    private static ReviewBench withOwnedRound() {
        ReviewBench bench = Bench.withRound(1);
        bench.giveRange(0, 99, 3);
        return bench;
    }

    private static ReviewBench withConflict() {
        ReviewBench bench = Bench.withChanges(2);
        Bench.lay(bench, 0, 1);
        Bench.lay(bench, 1, 2);
        bench.land(1);
        return bench;
    }

    /** Change 2 would bring a main text of twelve lines to thirteen. */
    private static ReviewBench withThirteenLines() {
        ReviewBench bench = Bench.withMain(50);
        bench.open(0);
        bench.open(0);
        Bench.lay(bench, 1, 1, 2, 3, 4, 5, 6, 7, 8, 9, 10, 11, 50);
        Bench.lay(bench, 2, 50, 60);
        bench.land(1);
        return bench;
    }

    // ---- promise 12

    @Holds(at = "Promise 12", sentence = "Returns the number of lines of the main text.")
    static void landOfNoLinesAndOfTwelve() {
        Check.due("an empty round", 0, () -> Bench.withRound().land(0));
        Check.due("a full round", 12, () -> Bench.withRound(Bench.linesFrom(10, 12)).land(0));
        ReviewBench bench = Bench.withMain(Bench.linesFrom(10, 12));
        bench.open(0);
        bench.lay(1);
        Check.due("all lines removed", 0, () -> bench.land(1));
        Check.due("mainLines", 0, bench::mainLines);
    }

    @Holds(at = "Promise 12", sentence = "Returns the number of lines of the main text.")
    static void landCountsTheMergedText() {
        ReviewBench bench = Bench.withMain(1, 2);
        bench.open(0);
        bench.open(0);
        Bench.lay(bench, 1, 0, 1, 2);
        Bench.lay(bench, 2, 1, 2, 3);
        Check.due("one line more", 3, () -> bench.land(1));
        Check.due("another line, with the one that has landed meanwhile", 4, () -> bench.land(2));
    }

    @Holds(at = "Promise 12", sentence = "Lands a change.")
    static void landBringsInTheNamedChangeAlone() {
        ReviewBench bench = Bench.withChanges(4);
        for (int change = 0; change < 4; change++) {
            Bench.lay(bench, change, 10 + change);
        }
        bench.land(2);
        Check.due("the main text", "12", () -> Bench.mainText(bench));
        Check.due("the order", "2", () -> Bench.order(bench));
        Check.due("the change", 'l', () -> bench.reasonAgainst(2));
        for (int change : new int[] {0, 1, 3}) {
            Check.due("the other change " + change, 'm', () -> bench.reasonAgainst(change));
        }
    }

    @Holds(at = "Promise 12", sentence = "Lands a change.")
    static void landBringsInThePresentRound() {
        ReviewBench bench = Bench.withRound(1, 2);
        Bench.lay(bench, 0, 2, 3);
        bench.addLine(0, 4);
        bench.land(0);
        Check.due("neither an earlier round nor the draft", "2 3", () -> Bench.mainText(bench));
    }

    @Holds(at = "Promise 12", sentence = "Throws IndexOutOfBoundsException if there is no such change")
    static void landOfNoChange() {
        for (int change : new int[] {-1, 2, 3, LEAST, MOST}) {
            Refusal.outOfBounds("land of change " + change, () -> withEmptyRounds(2), bench -> bench.land(change));
        }
        Refusal.outOfBounds("land of change 0 of none", ReviewBench::new, bench -> bench.land(0));
        Refusal.outOfBounds("land of change 4 of four", () -> withEmptyRounds(4), bench -> bench.land(4));
        Check.due("land of change 3 of four", 0, () -> withEmptyRounds(4).land(3));
    }

    @Holds(at = "Promise 12", sentence = "Throws UnsupportedOperationException if there is a reason against it")
    static void landWithEachReason() {
        Refusal.unsupported("l", () -> Bench.withMain(1), bench -> bench.land(0));
        Refusal.unsupported("r", () -> Bench.withChanges(1), bench -> bench.land(0));
        Refusal.unsupported("d", () -> {
            ReviewBench bench = withEmptyRounds(2);
            bench.landAfter(0, 1);
            return bench;
        }, bench -> bench.land(0));
        Refusal.unsupported("c", BoundaryLandingTest::withOpenComment, bench -> bench.land(0));
        Refusal.unsupported("a", BoundaryLandingTest::withOwnedRound, bench -> bench.land(0));
        Refusal.unsupported("m", BoundaryLandingTest::withConflict, bench -> bench.land(0));
        Refusal.unsupported("s", BoundaryLandingTest::withThirteenLines, bench -> bench.land(2));
    }

    // ---- promise 13

    @Holds(at = "Promise 13", sentence = "Lands changes, one after the other,"
        + " as long as there is one without a reason against it")
    static void landAllWithoutAny() {
        Check.due("without a change", 0, () -> new ReviewBench().landAll());
        Check.due("without a round", 0, () -> Bench.withChanges(4).landAll());
        Check.due("with what has landed alone", 0, () -> Bench.withMain(1).landAll());
        Check.due("with an open comment", 0, () -> withOpenComment().landAll());
        Check.due("with an approval missing", 0, () -> withOwnedRound().landAll());
        Check.due("with a conflict", 0, () -> withConflict().landAll());
        Check.due("with thirteen lines", 0, () -> withThirteenLines().landAll());
    }

    @Holds(at = "Promise 13", sentence = "Lands changes, one after the other,"
        + " as long as there is one without a reason against it")
    static void landAllLandsInARow() {
        ReviewBench bench = withEmptyRounds(4);
        bench.landAfter(0, 1);
        bench.landAfter(1, 2);
        bench.landAfter(2, 3);
        Check.due("each makes way for the next", 4, bench::landAll);
        Check.due("in this order", "3 2 1 0", () -> Bench.order(bench));
    }

    @Holds(at = "Promise 13", sentence = "Lands changes, one after the other,"
        + " as long as there is one without a reason against it")
    static void landAllLeavesThoseWithAReason() {
        ReviewBench bench = withEmptyRounds(3);
        bench.open(0);
        bench.landAfter(1, 3);
        Check.due("two of four", 2, bench::landAll);
        Check.due("those two", "0 2", () -> Bench.order(bench));
        Check.due("one waits", 'd', () -> bench.reasonAgainst(1));
        Check.due("one has no round", 'r', () -> bench.reasonAgainst(3));
    }

    @Holds(at = "Promise 13", sentence = "Lands changes, one after the other,"
        + " as long as there is one without a reason against it")
    static void landAllMeetsAConflictThatItMakes() {
        ReviewBench bench = Bench.withChanges(2);
        Bench.lay(bench, 0, 1);
        Bench.lay(bench, 1, 2);
        Check.due("landAll", 1, bench::landAll);
        Check.due("the first one's text", "1", () -> Bench.mainText(bench));
        Check.due("the other one is in conflict", 'm', () -> bench.reasonAgainst(1));
    }

    @Holds(at = "Promise 13",
        sentence = "each time the one with the greatest priority, of several the one with the lowest number.")
    static void landAllByPriority() {
        ReviewBench bench = withEmptyRounds(4);
        bench.setPriority(1, 8);
        bench.setPriority(2, 1);
        bench.setPriority(3, 9);
        bench.landAll();
        Check.due("9, 8, 1, 0", "3 1 2 0", () -> Bench.order(bench));
    }

    @Holds(at = "Promise 13",
        sentence = "each time the one with the greatest priority, of several the one with the lowest number.")
    static void landAllByNumberOfTheSamePriority() {
        ReviewBench alike = withEmptyRounds(4);
        alike.landAll();
        Check.due("all alike", "0 1 2 3", () -> Bench.order(alike));
        ReviewBench bench = withEmptyRounds(4);
        bench.setPriority(0, 5);
        bench.setPriority(1, 9);
        bench.setPriority(2, 5);
        bench.setPriority(3, 9);
        bench.landAll();
        Check.due("two and two", "1 3 0 2", () -> Bench.order(bench));
    }

    @Holds(at = "Promise 13",
        sentence = "each time the one with the greatest priority, of several the one with the lowest number.")
    static void landAllLooksAgainEachTime() {
        ReviewBench bench = withEmptyRounds(4);
        bench.setPriority(3, 9);
        bench.landAfter(3, 1);
        bench.setPriority(2, 1);
        Check.due("landAll", 4, bench::landAll);
        Check.due("the greatest as soon as it can", "2 0 1 3", () -> Bench.order(bench));
        ReviewBench second = withEmptyRounds(4);
        second.setPriority(0, 9);
        second.landAfter(0, 1);
        Check.due("landAll", 4, second::landAll);
        Check.due("ahead of one of a lower priority", "1 0 2 3", () -> Bench.order(second));
    }

    @Holds(at = "Promise 13",
        sentence = "each time the one with the greatest priority, of several the one with the lowest number.")
    static void landAllPassesOverTheGreatestWithAReason() {
        ReviewBench bench = withEmptyRounds(2);
        bench.open(0);
        bench.setPriority(2, 9);
        bench.setPriority(1, 1);
        Check.due("landAll", 2, bench::landAll);
        Check.due("the greatest of the others first", "1 0", () -> Bench.order(bench));
    }

    @Holds(at = "Promise 13",
        sentence = "each time the one with the greatest priority, of several the one with the lowest number.")
    static void landAllMergesTheOneThatLands() {
        ReviewBench bench = Bench.withMain(1);
        for (int change = 1; change < 4; change++) {
            bench.open(0);
        }
        Bench.lay(bench, 1, 1, 5);
        Bench.lay(bench, 2, 9, 1);
        Bench.lay(bench, 3, 1, 6);
        bench.land(1);
        bench.setPriority(3, 9);
        Check.due("landAll", 1, bench::landAll);
        Check.due("the one that is not in conflict", "9 1 5", () -> Bench.mainText(bench));
        Check.due("the one that is", 'm', () -> bench.reasonAgainst(3));
    }

    @Holds(at = "Promise 13", sentence = "Returns the number of changes that land.")
    static void landAllCountsThoseThatLandNow() {
        ReviewBench bench = withEmptyRounds(4);
        bench.land(2);
        Check.due("those that landed before don't count", 3, bench::landAll);
        Check.due("none is left", 0, bench::landAll);
    }

    // ---- promise 14

    @Holds(at = "Promise 14", sentence = "Returns the reason.")
    static void reasonAgainstTheFirstAndTheLastChange() {
        ReviewBench bench = Bench.withMain(1);
        bench.open(0);
        bench.open(0);
        bench.open(0);
        Check.due("the first", 'l', () -> bench.reasonAgainst(0));
        Check.due("the last", 'r', () -> bench.reasonAgainst(3));
    }

    @Holds(at = "Promise 14", sentence = "Returns the reason against landing a change.")
    static void reasonAgainstOneOfSeveral() {
        ReviewBench bench = withThirteenLines();
        bench.open(0);
        Bench.lay(bench, 3, 7);
        Check.due("another reason for each, l", 'l', () -> bench.reasonAgainst(1));
        Check.due("s", 's', () -> bench.reasonAgainst(2));
        bench.landAfter(3, 2);
        Check.due("d", 'd', () -> bench.reasonAgainst(3));
        bench.comment(2, 0);
        Check.due("c", 'c', () -> bench.reasonAgainst(2));
        Check.due("d, with a comment on the other change", 'd', () -> bench.reasonAgainst(3));
    }

    @Holds(at = "Promise 14", sentence = "Throws IndexOutOfBoundsException if there is no such change")
    static void reasonAgainstNoChange() {
        for (int change : new int[] {-1, 2, 3, LEAST, MOST}) {
            Refusal.outOfBounds("reasonAgainst change " + change, () -> withEmptyRounds(2),
                bench -> bench.reasonAgainst(change));
        }
        Refusal.outOfBounds("reasonAgainst change 0 of none", ReviewBench::new, bench -> bench.reasonAgainst(0));
        Refusal.outOfBounds("reasonAgainst change 4 of four", () -> withEmptyRounds(4), bench -> bench.reasonAgainst(4));
    }

    @Holds(at = "Promise 14", sentence = "Throws NoSuchElementException if there is none")
    static void reasonAgainstOneWithoutAReason() {
        Refusal.noSuchElement("an empty round", () -> withEmptyRounds(1), bench -> bench.reasonAgainst(0));
        Refusal.noSuchElement("a full round", () -> Bench.withRound(Bench.linesFrom(10, 12)),
            bench -> bench.reasonAgainst(0));
        Refusal.noSuchElement("the last of four", () -> withEmptyRounds(4), bench -> bench.reasonAgainst(3));
    }

    // ---- promise 15

    private static ReviewBench withAllOwners(int author) {
        ReviewBench bench = new ReviewBench();
        bench.open(author);
        for (int user = 0; user < 5; user++) {
            bench.giveRange(user, user, user);
        }
        Bench.lay(bench, 0, 4, 3, 2, 1, 0);
        return bench;
    }

    @Holds(at = "Promise 15", sentence = "Returns the user.")
    static void missingUserFromTheLeastToTheGreatest() {
        ReviewBench bench = withAllOwners(2);
        for (int user : new int[] {0, 1, 3, 4}) {
            Check.due("the lowest", user, () -> bench.missingUser(0));
            bench.approve(0, user);
        }
        Check.noSuchElement("none then", () -> bench.missingUser(0));
    }

    @Holds(at = "Promise 15", sentence = "Returns the lowest user whose approval is needed and is missing or stale.")
    static void missingUserIsStaleToo() {
        ReviewBench bench = withAllOwners(0);
        for (int user = 1; user < 5; user++) {
            bench.approve(0, user);
        }
        Bench.lay(bench, 0, 4, 3, 2, 1, 1, 0);
        Check.due("one is stale", 1, () -> bench.missingUser(0));
        bench.withdraw(0, 3);
        Check.due("a stale one ahead of a missing one", 1, () -> bench.missingUser(0));
        bench.approve(0, 1);
        Check.due("the missing one", 3, () -> bench.missingUser(0));
    }

    @Holds(at = "Promise 15", sentence = "Returns the lowest user whose approval is needed and is missing or stale.")
    static void missingUserIsNeeded() {
        ReviewBench bench = withAllOwners(4);
        Bench.lay(bench, 0, 2);
        Check.due("0 and 1 are not needed", 2, () -> bench.missingUser(0));
        bench.approve(0, 2);
        Bench.lay(bench, 0, 2, 3);
        Check.due("2 is not stale", 3, () -> bench.missingUser(0));
        Bench.lay(bench, 0, 3);
        Check.due("2 is stale, but needed no more", 3, () -> bench.missingUser(0));
    }

    @Holds(at = "Promise 15", sentence = "Throws IndexOutOfBoundsException if there is no such change")
    static void missingUserOfNoChange() {
        for (int change : new int[] {-1, 1, 2, 3, LEAST, MOST}) {
            Refusal.outOfBounds("missingUser of change " + change, BoundaryLandingTest::withOwnedRound,
                bench -> bench.missingUser(change));
        }
        Refusal.outOfBounds("missingUser of change 0 of none", ReviewBench::new, bench -> bench.missingUser(0));
        Refusal.outOfBounds("missingUser of change 4 of four", () -> withEmptyRounds(4), bench -> bench.missingUser(4));
    }

    @Holds(at = "Promise 15", sentence = "Throws NoSuchElementException if there is none, or the change has no round")
    static void missingUserWhenNoneIs() {
        Refusal.noSuchElement("no owner", () -> Bench.withRound(1), bench -> bench.missingUser(0));
        Refusal.noSuchElement("the author alone", () -> {
            ReviewBench bench = Bench.withRound(1);
            bench.giveRange(0, 99, 0);
            return bench;
        }, bench -> bench.missingUser(0));
        Refusal.noSuchElement("all have approved", () -> {
            ReviewBench bench = withOwnedRound();
            bench.approve(0, 3);
            return bench;
        }, bench -> bench.missingUser(0));
        Refusal.noSuchElement("nothing has changed", () -> {
            ReviewBench bench = Bench.withMain(1);
            bench.giveRange(0, 99, 3);
            bench.open(0);
            Bench.lay(bench, 1, 1);
            return bench;
        }, bench -> bench.missingUser(1));
    }

    @Holds(at = "Promise 15", sentence = "Throws NoSuchElementException if there is none, or the change has no round")
    static void missingUserWithoutARound() {
        Refusal.noSuchElement("a draft alone", () -> {
            ReviewBench bench = Bench.withChanges(1);
            bench.giveRange(0, 99, 3);
            bench.addLine(0, 1);
            return bench;
        }, bench -> bench.missingUser(0));
        Refusal.noSuchElement("a base alone", () -> {
            ReviewBench bench = Bench.withMain(1);
            bench.giveRange(0, 99, 3);
            bench.open(0);
            return bench;
        }, bench -> bench.missingUser(1));
    }

    // ---- promise 16

    @Holds(at = "Promise 16", sentence = "the position in the order of landing, counted from 0")
    static void landedAtTheFirstAndTheLastPosition() {
        ReviewBench bench = withEmptyRounds(4);
        int[] order = {2, 0, 3, 1};
        for (int change : order) {
            bench.land(change);
        }
        for (int position = 0; position < 4; position++) {
            int asked = position;
            Check.due("landedAt " + asked, order[asked], () -> bench.landedAt(asked));
        }
        Check.noSuchElement("landedAt 4", () -> bench.landedAt(4));
    }

    @Holds(at = "Promise 16", sentence = "Returns a change that has landed.")
    static void landedAtAfterLandAll() {
        ReviewBench bench = withEmptyRounds(4);
        bench.landAfter(1, 2);
        bench.setPriority(1, 9);
        bench.setPriority(3, 5);
        Check.due("landAll", 4, bench::landAll);
        int[] order = {3, 0, 2, 1};
        for (int position = 0; position < 4; position++) {
            int asked = position;
            Check.due("landedAt " + asked, order[asked], () -> bench.landedAt(asked));
        }
    }

    @Holds(at = "Promise 16", sentence = "Returns the number of the change.")
    static void landedAtWhenOneHasLanded() {
        ReviewBench bench = withEmptyRounds(4);
        bench.land(3);
        Check.due("landedAt 0", 3, () -> bench.landedAt(0));
    }

    @Holds(at = "Promise 16", sentence = "Throws NoSuchElementException if there is no such position")
    static void landedAtNoPosition() {
        for (int position : new int[] {-1, 2, 3, 4, LEAST, MOST}) {
            Refusal.noSuchElement("landedAt " + position, () -> {
                ReviewBench bench = withEmptyRounds(4);
                bench.land(1);
                bench.land(2);
                return bench;
            }, bench -> bench.landedAt(position));
        }
        Refusal.noSuchElement("landedAt 0 of none", () -> withEmptyRounds(1), bench -> bench.landedAt(0));
        Refusal.noSuchElement("landedAt 0 at first", ReviewBench::new, bench -> bench.landedAt(0));
    }

    @Holds(at = "Promise 16", sentence = "Throws NoSuchElementException if there is no such position")
    static void landedAtAfterARefusedLanding() {
        Refusal.noSuchElement("landedAt 1", () -> {
            ReviewBench bench = withConflict();
            Check.unsupported("land", () -> bench.land(0));
            return bench;
        }, bench -> bench.landedAt(1));
    }
}
