/** The boundary cases of promises 1 to 7, sentence by sentence. */
public final class BoundaryOwnersChangesRoundsTest {
    private static final int LEAST = Integer.MIN_VALUE;
    private static final int MOST = Integer.MAX_VALUE;
    private static final int[] NO_USERS = {-1, 5, LEAST, MOST};
    private static final int[] NO_CONTENTS = {-1, 100, LEAST, MOST};

    private BoundaryOwnersChangesRoundsTest() {
    }

    public static void main(String[] args) {
        Sentences.run(BoundaryOwnersChangesRoundsTest.class);
    }

    private static ReviewBench withRanges(int count) {
        ReviewBench bench = Bench.withRound(5, 95);
        for (int range = 0; range < count; range++) {
            bench.giveRange(10 * range, 10 * range + 9, range % 5);
        }
        return bench;
    }

    private static ReviewBench withDraft(int count) {
        ReviewBench bench = Bench.withChanges(2);
        Bench.draft(bench, 0, Bench.linesFrom(30, count));
        return bench;
    }

    private static ReviewBench withRounds(int count) {
        ReviewBench bench = Bench.withChanges(2);
        for (int round = 0; round < count; round++) {
            Bench.lay(bench, 0, 20 + round);
        }
        Bench.draft(bench, 0, 7);
        return bench;
    }

    /** Change 0 has landed; it has a draft that was not laid. */
    private static ReviewBench withLanded() {
        ReviewBench bench = Bench.withRound(5);
        bench.open(1);
        Bench.draft(bench, 0, 6);
        bench.land(0);
        return bench;
    }

    // ---- promise 1

    @Holds(at = "Promise 1", sentence = "Creates a bench with an empty main text.")
    static void aNewBenchHasAnEmptyMainText() {
        ReviewBench bench = new ReviewBench();
        Check.due("mainLines", 0, bench::mainLines);
        Check.noSuchElement("mainLine(0)", () -> bench.mainLine(0));
    }

    @Holds(at = "Promise 1", sentence = "Creates a bench with an empty main text.")
    static void aNewBenchHasNothingElse() {
        ReviewBench bench = new ReviewBench();
        Check.outOfBounds("rounds(0)", () -> bench.rounds(0));
        Check.outOfBounds("isOpen(0)", () -> bench.isOpen(0));
        Check.noSuchElement("landedAt(0)", () -> bench.landedAt(0));
        Check.noSuchElement("ownerOf(0)", () -> bench.ownerOf(0));
        Check.noSuchElement("ownerOf(99)", () -> bench.ownerOf(99));
        Check.due("the first range", 1, () -> bench.giveRange(0, 99, 0));
        Check.due("the first change", 0, () -> bench.open(0));
    }

    @Holds(at = "Promise 1", sentence = "Creates a bench with an empty main text.")
    static void aNewBenchIsApartFromThoseBefore() {
        ReviewBench before = Bench.withMain(1, 2);
        before.giveRange(0, 99, 1);
        before.open(0);
        Bench.lay(before, 1, 1);
        before.comment(1, 0);
        ReviewBench bench = new ReviewBench();
        Check.due("mainLines", 0, bench::mainLines);
        Check.outOfBounds("rounds(0)", () -> bench.rounds(0));
        Check.outOfBounds("isOpen(0)", () -> bench.isOpen(0));
        Check.noSuchElement("ownerOf(0)", () -> bench.ownerOf(0));
        Check.due("the bench before", 2, before::mainLines);
    }

    // ---- promise 2

    @Holds(at = "Promise 2", sentence = "Gives a range of contents to a user.")
    static void aRangeHoldsItsLowAndItsHighContent() {
        ReviewBench bench = new ReviewBench();
        bench.giveRange(10, 19, 1);
        Check.noSuchElement("ahead of the low one", () -> bench.ownerOf(9));
        Check.due("the low one", 1, () -> bench.ownerOf(10));
        Check.due("the high one", 1, () -> bench.ownerOf(19));
        Check.noSuchElement("behind the high one", () -> bench.ownerOf(20));
    }

    @Holds(at = "Promise 2", sentence = "Gives a range of contents to a user.")
    static void aRangeMayBeOfOneContentAndOfAll() {
        ReviewBench bench = new ReviewBench();
        Check.due("the least content", 1, () -> bench.giveRange(0, 0, 2));
        Check.due("its owner", 2, () -> bench.ownerOf(0));
        Check.noSuchElement("the next content", () -> bench.ownerOf(1));
        Check.due("the greatest content", 2, () -> bench.giveRange(99, 99, 3));
        Check.due("its owner", 3, () -> bench.ownerOf(99));
        Check.noSuchElement("the content before", () -> bench.ownerOf(98));
        Check.due("all contents", 3, () -> bench.giveRange(0, 99, 4));
        Check.due("the owner of the least", 4, () -> bench.ownerOf(0));
        Check.due("the owner of the greatest", 4, () -> bench.ownerOf(99));
    }

    @Holds(at = "Promise 2", sentence = "Returns the number of ranges.")
    static void giveRangeCountsAllRanges() {
        ReviewBench bench = new ReviewBench();
        Check.due("the first", 1, () -> bench.giveRange(0, 9, 0));
        Check.due("the same again", 2, () -> bench.giveRange(0, 9, 0));
        Check.due("another user's", 3, () -> bench.giveRange(20, 29, 1));
        Check.due("one within another one", 4, () -> bench.giveRange(22, 23, 2));
        Check.due("one over others", 5, () -> bench.giveRange(0, 50, 3));
        Check.due("the last", 6, () -> bench.giveRange(98, 99, 4));
    }

    @Holds(at = "Promise 2", sentence = "Throws IndexOutOfBoundsException if there is no such user")
    static void giveRangeToNoUser() {
        for (int user : NO_USERS) {
            Refusal.outOfBounds("giveRange to user " + user, () -> withRanges(1), bench -> bench.giveRange(0, 99, user));
        }
        ReviewBench bench = new ReviewBench();
        Check.due("to the least user", 1, () -> bench.giveRange(0, 0, 0));
        Check.due("to the greatest user", 2, () -> bench.giveRange(1, 1, 4));
    }

    @Holds(at = "Promise 2",
        sentence = "Throws IllegalArgumentException if a content is not between 0 and 99, or low is greater than high")
    static void giveRangeOfNoContents() {
        for (int content : NO_CONTENTS) {
            Refusal.illegalArgument("giveRange of " + content + " alone", () -> withRanges(1),
                bench -> bench.giveRange(content, content, 2));
        }
        for (int low : new int[] {-1, LEAST}) {
            Refusal.illegalArgument("giveRange from " + low, () -> withRanges(1), bench -> bench.giveRange(low, 99, 2));
        }
        for (int high : new int[] {100, MOST}) {
            Refusal.illegalArgument("giveRange to " + high, () -> withRanges(1), bench -> bench.giveRange(0, high, 2));
        }
        Refusal.illegalArgument("giveRange of all ints", () -> withRanges(1), bench -> bench.giveRange(LEAST, MOST, 2));
    }

    @Holds(at = "Promise 2",
        sentence = "Throws IllegalArgumentException if a content is not between 0 and 99, or low is greater than high")
    static void giveRangeFromAbove() {
        for (int[] range : new int[][] {{1, 0}, {51, 50}, {99, 98}, {99, 0}}) {
            Refusal.illegalArgument("giveRange from " + range[0] + " to " + range[1], () -> withRanges(1),
                bench -> bench.giveRange(range[0], range[1], 2));
        }
        Check.due("from 50 to 50", 2, () -> withRanges(1).giveRange(50, 50, 2));
    }

    @Holds(at = "Promise 2", sentence = "Throws IllegalStateException if there are 6 ranges")
    static void giveRangeWhenAllAreGiven() {
        Check.due("the sixth", 6, () -> withRanges(5).giveRange(50, 59, 0));
        Refusal.illegalState("a seventh", () -> withRanges(6), bench -> bench.giveRange(0, 99, 4));
        Refusal.illegalState("a seventh that was given before", () -> withRanges(6), bench -> bench.giveRange(0, 9, 0));
        Refusal.illegalState("a seventh of one content", () -> withRanges(6), bench -> bench.giveRange(99, 99, 4));
    }

    @Holds(at = "Terms", sentence = "If several exceptions apply, the one that is listed first is thrown.")
    static void giveRangeThrowsTheFirst() {
        Refusal.outOfBounds("no user, no content", () -> withRanges(1), bench -> bench.giveRange(-1, 9, 5));
        Refusal.outOfBounds("no user, low above high", () -> withRanges(1), bench -> bench.giveRange(9, 8, -1));
        Refusal.outOfBounds("no user, six ranges", () -> withRanges(6), bench -> bench.giveRange(0, 9, 5));
        Refusal.illegalArgument("no content, six ranges", () -> withRanges(6), bench -> bench.giveRange(0, 100, 1));
        Refusal.illegalArgument("low above high, six ranges", () -> withRanges(6), bench -> bench.giveRange(9, 8, 1));
        Refusal.outOfBounds("all of it", () -> withRanges(6), bench -> bench.giveRange(100, -1, MOST));
    }

    // ---- promise 3

    @Holds(at = "Promise 3", sentence = "Opens a change.")
    static void openByTheLeastAndTheGreatestUser() {
        for (int author : new int[] {0, 4}) {
            ReviewBench bench = new ReviewBench();
            bench.giveRange(0, 99, author);
            Check.due("open(" + author + ")", 0, () -> bench.open(author));
            Check.due("its rounds", 0, () -> bench.rounds(0));
            Bench.lay(bench, 0, 1);
            Check.illegalState("the author can't approve", () -> bench.approve(0, author));
            Check.noSuchElement("the author is not missing", () -> bench.missingUser(0));
        }
    }

    @Holds(at = "Promise 3", sentence = "Returns the number of the change.")
    static void openNumbersFromNought() {
        ReviewBench bench = new ReviewBench();
        for (int change = 0; change < 4; change++) {
            int due = change;
            Check.outOfBounds("change " + due + " is not there yet", () -> bench.rounds(due));
            Check.due("open", due, () -> bench.open(2));
            Check.due("its rounds", 0, () -> bench.rounds(due));
        }
    }

    @Holds(at = "Promise 3", sentence = "Throws IndexOutOfBoundsException if there is no such user")
    static void openByNoUser() {
        for (int author : NO_USERS) {
            Refusal.outOfBounds("open(" + author + ")", () -> Bench.withChanges(1), bench -> bench.open(author));
            Refusal.outOfBounds("open(" + author + ") at first", ReviewBench::new, bench -> bench.open(author));
        }
    }

    @Holds(at = "Promise 3", sentence = "Throws IllegalStateException if there are 4 changes")
    static void openAFifth() {
        Check.due("the fourth", 3, () -> Bench.withChanges(3).open(0));
        Refusal.illegalState("a fifth", () -> Bench.withChanges(4), bench -> bench.open(0));
        Refusal.illegalState("a fifth of another author", () -> Bench.withChanges(4), bench -> bench.open(4));
    }

    @Holds(at = "Promise 3", sentence = "Throws IllegalStateException if there are 4 changes")
    static void openAFifthWhenAllHaveLanded() {
        Refusal.illegalState("a fifth, with four that have landed", () -> {
            ReviewBench bench = Bench.withChanges(4);
            for (int change = 0; change < 4; change++) {
                bench.lay(change);
                bench.land(change);
            }
            return bench;
        }, bench -> bench.open(0));
    }

    @Holds(at = "Terms", sentence = "If several exceptions apply, the one that is listed first is thrown.")
    static void openThrowsTheFirst() {
        Refusal.outOfBounds("no user, four changes", () -> Bench.withChanges(4), bench -> bench.open(5));
        Refusal.outOfBounds("no user below, four changes", () -> Bench.withChanges(4), bench -> bench.open(-1));
    }

    // ---- promise 4

    @Holds(at = "Promise 4", sentence = "Adds a line to the draft of a change, behind its other lines.")
    static void addLineOfTheLeastAndTheGreatestContent() {
        ReviewBench bench = Bench.withChanges(1);
        Check.due("content 99", 1, () -> bench.addLine(0, 99));
        Check.due("content 0", 2, () -> bench.addLine(0, 0));
        Check.due("content 0 again", 3, () -> bench.addLine(0, 0));
        Check.due("content 50", 4, () -> bench.addLine(0, 50));
        bench.lay(0);
        Check.due("each behind the others", "99 0 0 50", () -> Bench.round(bench, 0, 0));
    }

    @Holds(at = "Promise 4", sentence = "Returns the number of lines of the draft.")
    static void addLineCountsTheDraftAlone() {
        ReviewBench bench = Bench.withChanges(2);
        for (int line = 1; line <= 12; line++) {
            int due = line;
            Check.due("line " + line, due, () -> bench.addLine(0, 1));
        }
        Check.due("the first of another draft", 1, () -> bench.addLine(1, 1));
        bench.lay(0);
        Check.due("the first of the next draft", 1, () -> bench.addLine(0, 1));
    }

    @Holds(at = "Promise 4", sentence = "Throws IndexOutOfBoundsException if there is no such change")
    static void addLineToNoChange() {
        for (int change : new int[] {-1, 2, 3, LEAST, MOST}) {
            Refusal.outOfBounds("addLine to change " + change, () -> withDraft(1), bench -> bench.addLine(change, 5));
        }
        Refusal.outOfBounds("addLine to change 0 of none", ReviewBench::new, bench -> bench.addLine(0, 5));
        Refusal.outOfBounds("addLine to change 4 of four", () -> Bench.withChanges(4), bench -> bench.addLine(4, 5));
        Check.due("addLine to change 3 of four", 1, () -> Bench.withChanges(4).addLine(3, 5));
    }

    @Holds(at = "Promise 4", sentence = "Throws IllegalArgumentException if the content is not between 0 and 99")
    static void addLineOfNoContent() {
        for (int content : NO_CONTENTS) {
            Refusal.illegalArgument("addLine of " + content, () -> withDraft(1), bench -> bench.addLine(0, content));
        }
    }

    @Holds(at = "Promise 4",
        sentence = "Throws IllegalStateException if the change has landed, or the draft has 12 lines")
    static void addLineWhenItHasLanded() {
        Refusal.illegalState("addLine", BoundaryOwnersChangesRoundsTest::withLanded, bench -> bench.addLine(0, 5));
        Check.due("addLine to another change", 1, () -> withLanded().addLine(1, 5));
    }

    @Holds(at = "Promise 4",
        sentence = "Throws IllegalStateException if the change has landed, or the draft has 12 lines")
    static void addLineWhenTheDraftIsFull() {
        Check.due("the twelfth", 12, () -> withDraft(11).addLine(0, 5));
        Refusal.illegalState("a thirteenth", () -> withDraft(12), bench -> bench.addLine(0, 5));
        ReviewBench bench = withDraft(12);
        Check.due("to another draft", 1, () -> bench.addLine(1, 5));
        bench.lay(0);
        Check.due("to the next draft", 1, () -> bench.addLine(0, 5));
    }

    @Holds(at = "Promise 4",
        sentence = "Throws IllegalStateException if the change has landed, or the draft has 12 lines")
    static void addLineWhenAllRoundsAreLaid() {
        Check.due("the draft behind four rounds takes a line", 2, () -> withRounds(4).addLine(0, 5));
    }

    @Holds(at = "Terms", sentence = "If several exceptions apply, the one that is listed first is thrown.")
    static void addLineThrowsTheFirst() {
        Refusal.outOfBounds("no change, no content", () -> withDraft(1), bench -> bench.addLine(2, 100));
        Refusal.outOfBounds("no change below, no content", () -> withDraft(1), bench -> bench.addLine(-1, -1));
        Refusal.illegalArgument("no content, landed", BoundaryOwnersChangesRoundsTest::withLanded,
            bench -> bench.addLine(0, 100));
        Refusal.illegalArgument("no content, a full draft", () -> withDraft(12), bench -> bench.addLine(0, -1));
    }

    // ---- promise 5

    @Holds(at = "Promise 5", sentence = "Lays the draft of a change as its next round; the draft is empty then.")
    static void layOfAnEmptyAndOfAFullDraft() {
        ReviewBench bench = withDraft(12);
        bench.lay(0);
        Check.due("the full round", "30 31 32 33 34 35 36 37 38 39 40 41", () -> Bench.round(bench, 0, 0));
        bench.lay(0);
        Check.due("the empty round", 0, () -> bench.lines(0, 1));
        Check.due("the round before stays", 12, () -> bench.lines(0, 0));
        Bench.lay(bench, 0, 8);
        Check.due("the draft was empty", "8", () -> Bench.round(bench, 0, 2));
        Check.due("the draft is empty then", 1, () -> bench.addLine(0, 9));
    }

    @Holds(at = "Promise 5", sentence = "Lays the draft of a change as its next round; the draft is empty then.")
    static void layLeavesOtherDrafts() {
        ReviewBench bench = withDraft(3);
        bench.addLine(1, 4);
        bench.lay(1);
        Check.due("the other draft stays", 4, () -> bench.addLine(0, 9));
        Check.due("the other change has no round", 0, () -> bench.rounds(0));
    }

    @Holds(at = "Promise 5", sentence = "Returns the number of the round.")
    static void layNumbersFromNought() {
        ReviewBench bench = Bench.withChanges(2);
        for (int round = 0; round < 4; round++) {
            int due = round;
            Check.due("lay", due, () -> bench.lay(0));
            Check.due("rounds", due + 1, () -> bench.rounds(0));
        }
        Check.due("lay of another change", 0, () -> bench.lay(1));
    }

    @Holds(at = "Promise 5", sentence = "Throws IndexOutOfBoundsException if there is no such change")
    static void layOfNoChange() {
        for (int change : new int[] {-1, 2, 3, LEAST, MOST}) {
            Refusal.outOfBounds("lay of change " + change, () -> withDraft(2), bench -> bench.lay(change));
        }
        Refusal.outOfBounds("lay of change 0 of none", ReviewBench::new, bench -> bench.lay(0));
        Refusal.outOfBounds("lay of change 4 of four", () -> Bench.withChanges(4), bench -> bench.lay(4));
        Check.due("lay of change 3 of four", 0, () -> Bench.withChanges(4).lay(3));
    }

    @Holds(at = "Promise 5", sentence = "Throws IllegalStateException if the change has landed, or has 4 rounds")
    static void layWhenItHasLanded() {
        Refusal.illegalState("lay", BoundaryOwnersChangesRoundsTest::withLanded, bench -> bench.lay(0));
        Check.due("lay of another change", 0, () -> withLanded().lay(1));
    }

    @Holds(at = "Promise 5", sentence = "Throws IllegalStateException if the change has landed, or has 4 rounds")
    static void layOfAFifthRound() {
        Check.due("the fourth", 3, () -> withRounds(3).lay(0));
        Refusal.illegalState("a fifth", () -> withRounds(4), bench -> bench.lay(0));
        ReviewBench bench = withRounds(4);
        Check.illegalState("a fifth", () -> bench.lay(0));
        Check.due("the draft stays", 2, () -> bench.addLine(0, 1));
        Check.due("the fourth round stays", "23", () -> Bench.round(bench, 0, 3));
    }

    // ---- promise 6

    @Holds(at = "Promise 6", sentence = "Makes a change land after another one.")
    static void landAfterWaitsForTheOther() {
        ReviewBench bench = Bench.withChanges(2);
        bench.lay(0);
        bench.lay(1);
        bench.landAfter(0, 1);
        Check.unsupported("land ahead of the other", () -> bench.land(0));
        Check.due("the other one need not wait", 0, () -> bench.land(1));
        Check.due("land then", 0, () -> bench.land(0));
    }

    @Holds(at = "Promise 6", sentence = "Returns the number of changes after which it has to land itself.")
    static void landAfterCountsEachOnce() {
        ReviewBench bench = Bench.withChanges(4);
        Check.due("the first", 1, () -> bench.landAfter(0, 3));
        Check.due("the same again", 1, () -> bench.landAfter(0, 3));
        Check.due("the second", 2, () -> bench.landAfter(0, 1));
        Check.due("the third, all others then", 3, () -> bench.landAfter(0, 2));
        Check.due("the first once more", 3, () -> bench.landAfter(0, 3));
    }

    @Holds(at = "Promise 6", sentence = "Returns the number of changes after which it has to land itself.")
    static void landAfterCountsNoneOverOthers() {
        ReviewBench bench = Bench.withChanges(4);
        Check.due("3 after 2", 1, () -> bench.landAfter(3, 2));
        Check.due("2 after 1", 1, () -> bench.landAfter(2, 1));
        Check.due("1 after 0", 1, () -> bench.landAfter(1, 0));
        Check.due("3 after 2 again, which lands after 1 and 0", 1, () -> bench.landAfter(3, 2));
        Check.due("3 after 0 itself", 2, () -> bench.landAfter(3, 0));
    }

    @Holds(at = "Promise 6", sentence = "Returns the number of changes after which it has to land itself.")
    static void landAfterCountsOneThatHasLanded() {
        ReviewBench bench = withLanded();
        Check.due("after one that has landed", 1, () -> bench.landAfter(1, 0));
        bench.open(0);
        Check.due("and after another one", 2, () -> bench.landAfter(1, 2));
    }

    @Holds(at = "Promise 6", sentence = "Throws IndexOutOfBoundsException if there is no such change, for either")
    static void landAfterOfNoChange() {
        for (int number : new int[] {-1, 2, 3, LEAST, MOST}) {
            Refusal.outOfBounds("landAfter of change " + number, () -> Bench.withChanges(2),
                bench -> bench.landAfter(number, 0));
            Refusal.outOfBounds("landAfter after change " + number, () -> Bench.withChanges(2),
                bench -> bench.landAfter(0, number));
        }
        Refusal.outOfBounds("landAfter after change 4 of four", () -> Bench.withChanges(4), bench -> bench.landAfter(0, 4));
        Refusal.outOfBounds("landAfter of change 4 of four", () -> Bench.withChanges(4), bench -> bench.landAfter(4, 0));
        Refusal.outOfBounds("landAfter of none", ReviewBench::new, bench -> bench.landAfter(0, 1));
        Check.due("landAfter after change 3 of four", 1, () -> Bench.withChanges(4).landAfter(0, 3));
    }

    @Holds(at = "Promise 6", sentence = "Throws IllegalStateException if the change has landed")
    static void landAfterWhenItHasLanded() {
        Refusal.illegalState("landAfter", BoundaryOwnersChangesRoundsTest::withLanded, bench -> bench.landAfter(0, 1));
        Check.due("when the other one has landed", 1, () -> withLanded().landAfter(1, 0));
    }

    @Holds(at = "Promise 6", sentence = "Throws UnsupportedOperationException if both are the same,"
        + " or the other one would have to land after this one, directly or over others")
    static void landAfterItself() {
        for (int change = 0; change < 4; change++) {
            int same = change;
            Refusal.unsupported("landAfter(" + same + ", " + same + ")", () -> Bench.withChanges(4),
                bench -> bench.landAfter(same, same));
        }
    }

    @Holds(at = "Promise 6", sentence = "Throws UnsupportedOperationException if both are the same,"
        + " or the other one would have to land after this one, directly or over others")
    static void landAfterOneThatLandsAfterItDirectly() {
        for (int change = 0; change < 4; change++) {
            for (int other = 0; other < 4; other++) {
                int first = change;
                int second = other;
                if (first != second) {
                    Refusal.unsupported("landAfter back from " + first + " to " + second, () -> {
                        ReviewBench bench = Bench.withChanges(4);
                        bench.landAfter(second, first);
                        return bench;
                    }, bench -> bench.landAfter(first, second));
                }
            }
        }
    }

    private static ReviewBench inARow(int first, int second, int third, int fourth) {
        ReviewBench bench = Bench.withChanges(4);
        bench.landAfter(second, first);
        bench.landAfter(third, second);
        bench.landAfter(fourth, third);
        return bench;
    }

    @Holds(at = "Promise 6", sentence = "Throws UnsupportedOperationException if both are the same,"
        + " or the other one would have to land after this one, directly or over others")
    static void landAfterOneThatLandsAfterItOverOthers() {
        int[][] rows = {{0, 1, 2, 3}, {3, 2, 1, 0}, {2, 0, 3, 1}, {1, 3, 0, 2}};
        for (int[] row : rows) {
            Refusal.unsupported("over one", () -> inARow(row[0], row[1], row[2], row[3]),
                bench -> bench.landAfter(row[0], row[2]));
            Refusal.unsupported("over another one", () -> inARow(row[0], row[1], row[2], row[3]),
                bench -> bench.landAfter(row[1], row[3]));
            Refusal.unsupported("over two", () -> inARow(row[0], row[1], row[2], row[3]),
                bench -> bench.landAfter(row[0], row[3]));
            ReviewBench bench = inARow(row[0], row[1], row[2], row[3]);
            Check.due("the way that is there already", 2, () -> bench.landAfter(row[3], row[0]));
            Check.due("and another one", 2, () -> bench.landAfter(row[2], row[0]));
        }
    }

    @Holds(at = "Terms", sentence = "If several exceptions apply, the one that is listed first is thrown.")
    static void landAfterThrowsTheFirst() {
        Refusal.outOfBounds("no change, landed", BoundaryOwnersChangesRoundsTest::withLanded,
            bench -> bench.landAfter(0, 2));
        Refusal.outOfBounds("no change, both the same", () -> Bench.withChanges(2), bench -> bench.landAfter(2, 2));
        Refusal.outOfBounds("no change below, both the same", () -> Bench.withChanges(2),
            bench -> bench.landAfter(-1, -1));
        Refusal.illegalState("landed, both the same", BoundaryOwnersChangesRoundsTest::withLanded,
            bench -> bench.landAfter(0, 0));
        Refusal.illegalState("landed, the other one after this one", () -> {
            ReviewBench bench = withLanded();
            bench.landAfter(1, 0);
            return bench;
        }, bench -> bench.landAfter(0, 1));
    }

    // ---- promise 7

    @Holds(at = "Promise 7", sentence = "Sets the priority of a change, at first 0.")
    static void setPriorityToTheLeastAndTheGreatest() {
        ReviewBench bench = Bench.withChanges(2);
        Check.due("at first", 0, () -> bench.setPriority(1, 9));
        Check.due("the greatest", 9, () -> bench.setPriority(1, 0));
        Check.due("the least", 0, () -> bench.setPriority(1, 0));
        Check.due("the other one's at first", 0, () -> bench.setPriority(0, 1));
    }

    @Holds(at = "Promise 7", sentence = "Returns the priority before.")
    static void setPriorityReturnsTheOneBefore() {
        ReviewBench bench = Bench.withChanges(1);
        for (int priority = 0; priority <= 9; priority++) {
            int next = priority;
            Check.due("setPriority to " + next, Math.max(0, next - 1), () -> bench.setPriority(0, next));
        }
        Check.due("the same again", 9, () -> bench.setPriority(0, 9));
        Check.due("and down", 9, () -> bench.setPriority(0, 0));
    }

    @Holds(at = "Promise 7", sentence = "Returns the priority before.")
    static void setPriorityWhenItHasLanded() {
        ReviewBench bench = withLanded();
        Check.due("when it has landed", 0, () -> bench.setPriority(0, 3));
        Check.due("that was set", 3, () -> bench.setPriority(0, 3));
    }

    @Holds(at = "Promise 7", sentence = "Throws IndexOutOfBoundsException if there is no such change")
    static void setPriorityOfNoChange() {
        for (int change : new int[] {-1, 2, 3, LEAST, MOST}) {
            Refusal.outOfBounds("setPriority of change " + change, () -> Bench.withChanges(2),
                bench -> bench.setPriority(change, 1));
        }
        Refusal.outOfBounds("setPriority of change 0 of none", ReviewBench::new, bench -> bench.setPriority(0, 1));
        Refusal.outOfBounds("setPriority of change 4 of four", () -> Bench.withChanges(4), bench -> bench.setPriority(4, 1));
        Check.due("setPriority of change 3 of four", 0, () -> Bench.withChanges(4).setPriority(3, 1));
    }

    @Holds(at = "Promise 7", sentence = "Throws IllegalArgumentException if the priority is not between 0 and 9")
    static void setPriorityToNone() {
        for (int priority : new int[] {-1, 10, LEAST, MOST}) {
            Refusal.illegalArgument("setPriority to " + priority, () -> {
                ReviewBench bench = Bench.withChanges(1);
                bench.setPriority(0, 4);
                return bench;
            }, bench -> bench.setPriority(0, priority));
        }
    }

    @Holds(at = "Terms", sentence = "If several exceptions apply, the one that is listed first is thrown.")
    static void setPriorityThrowsTheFirst() {
        Refusal.outOfBounds("no change, no priority", () -> Bench.withChanges(1), bench -> bench.setPriority(1, 10));
        Refusal.outOfBounds("no change below, no priority", () -> Bench.withChanges(1),
            bench -> bench.setPriority(-1, -1));
    }
}
