/** Promises 12 to 16: land, landAll, reasonAgainst, missingUser, landedAt; and merging. */
public final class LandingTest {
    private static final int[] NO_CHANGES = {-1, 4, Integer.MIN_VALUE, Integer.MAX_VALUE};

    private LandingTest() {
    }

    public static void main(String[] args) {
        land();
        landThrows();
        landAll();
        landAllGoesOn();
        reasonsInTheirOrder();
        reasonByEachOther();
        reasonByComments();
        reasonByApprovals();
        reasonBySize();
        reasonAgainstThrows();
        missingUser();
        missingUserThrows();
        landedAt();
        merging();
        Check.end("LandingTest");
    }

    private static void land() {
        ReviewBench bench = new ReviewBench();
        bench.open(0);
        bench.open(0);
        bench.open(0);
        Bench.lay(bench, 0, 1, 2, 3);
        Check.due("land", 3, () -> bench.land(0));
        Check.due("the main text", "1 2 3", () -> Bench.mainText(bench));
        bench.lay(1);
        Check.due("land of an empty round on what has landed", 3, () -> bench.land(1));
        bench.open(1);
        bench.lay(3);
        Check.due("land of a round that removes all", 0, () -> bench.land(3));
        Check.due("the main text then", "", () -> Bench.mainText(bench));
        Check.due("landing counts what lands", 3, () -> bench.landedAt(2));
    }

    private static void landThrows() {
        ReviewBench bench = new ReviewBench();
        Check.outOfBounds("land without a change", () -> bench.land(0));
        bench.open(0);
        for (int change : NO_CHANGES) {
            Check.outOfBounds("land of change " + change, () -> bench.land(change));
        }
        String empty = Bench.state(bench);
        Check.unsupported("land without a round", () -> bench.land(0));
        Check.due("land that throws changes nothing", empty, () -> Bench.state(bench));
        Bench.lay(bench, 0, 1);
        bench.comment(0, 0);
        String state = Bench.state(bench);
        Check.unsupported("land with an open comment", () -> bench.land(0));
        Check.due("land that throws changes nothing again", state, () -> Bench.state(bench));
        bench.resolve(0);
        bench.land(0);
        Check.unsupported("land again", () -> bench.land(0));
        Check.due("the main text stays", "1", () -> Bench.mainText(bench));
    }

    private static void landAll() {
        ReviewBench bench = new ReviewBench();
        Check.due("landAll without a change", 0, bench::landAll);
        for (int change = 0; change < 4; change++) {
            bench.open(0);
            bench.lay(change);
        }
        bench.setPriority(2, 9);
        bench.setPriority(3, 9);
        bench.setPriority(1, 1);
        Check.due("landAll", 4, bench::landAll);
        int[] order = {2, 3, 1, 0};
        for (int position = 0; position < 4; position++) {
            int asked = position;
            Check.due("by priority, then by number: " + position, order[position], () -> bench.landedAt(asked));
        }
        Check.due("landAll again", 0, bench::landAll);
        Check.noSuchElement("nothing landed twice", () -> bench.landedAt(4));
    }

    /** What lands makes way for others, and is in the way of others. */
    private static void landAllGoesOn() {
        ReviewBench bench = new ReviewBench();
        for (int change = 0; change < 4; change++) {
            bench.open(0);
        }
        Bench.lay(bench, 0, 1);
        Bench.lay(bench, 1, 2);
        Bench.lay(bench, 2, 1);
        bench.setPriority(0, 5);
        bench.landAfter(0, 2);
        bench.setPriority(3, 9);
        Check.due("landAll of those without a reason", 1, bench::landAll);
        Check.due("1 lands first", 1, () -> bench.landedAt(0));
        Check.due("2 is in conflict then", 'm', () -> bench.reasonAgainst(2));
        Check.due("0 waits", 'd', () -> bench.reasonAgainst(0));
        Check.due("3 has no round", 'r', () -> bench.reasonAgainst(3));
        Bench.lay(bench, 2, 2);
        Bench.lay(bench, 0, 2);
        Check.due("landAll counts only those that land now", 2, bench::landAll);
        Check.due("2 lands", 2, () -> bench.landedAt(1));
        Check.due("0, of a greater priority, lands when it can", 0, () -> bench.landedAt(2));
        Check.due("the same rows are taken once", "2", () -> Bench.mainText(bench));
    }

    private static void reasonsInTheirOrder() {
        ReviewBench bench = new ReviewBench();
        bench.open(0);
        bench.open(1);
        bench.open(0);
        Bench.lay(bench, 2, 7);
        bench.land(2);
        bench.landAfter(0, 1);
        Check.due("r ahead of d", 'r', () -> bench.reasonAgainst(0));
        bench.giveRange(0, 9, 3);
        Bench.lay(bench, 0, 1);
        bench.comment(0, 0);
        Check.due("d ahead of c", 'd', () -> bench.reasonAgainst(0));
        bench.lay(1);
        bench.land(1);
        Check.due("c ahead of a", 'c', () -> bench.reasonAgainst(0));
        bench.resolve(0);
        Check.due("a ahead of m", 'a', () -> bench.reasonAgainst(0));
        bench.approve(0, 3);
        Check.due("m", 'm', () -> bench.reasonAgainst(0));
        Bench.lay(bench, 0, 7);
        bench.approve(0, 3);
        Check.noSuchElement("none", () -> bench.reasonAgainst(0));
        bench.land(0);
        Check.due("l", 'l', () -> bench.reasonAgainst(0));
        bench.giveRange(0, 99, 4);
        Check.due("l ahead of a", 'l', () -> bench.reasonAgainst(0));
    }

    private static void reasonByEachOther() {
        for (int first = 0; first < 4; first++) {
            ReviewBench bench = new ReviewBench();
            for (int change = 0; change < 4; change++) {
                bench.open(0);
                bench.lay(change);
            }
            int waiting = (first + 1) % 4;
            int other = first;
            bench.landAfter(waiting, other);
            Check.due("after " + other, 'd', () -> bench.reasonAgainst(waiting));
            Check.noSuchElement("not the other way round", () -> bench.reasonAgainst(other));
            bench.land(other);
            Check.noSuchElement("when " + other + " has landed", () -> bench.reasonAgainst(waiting));
        }
    }

    private static void reasonByComments() {
        ReviewBench bench = new ReviewBench();
        bench.open(0);
        bench.open(0);
        Bench.lay(bench, 0, 1, 2);
        bench.lay(1);
        bench.comment(0, 0);
        Check.due("an open comment", 'c', () -> bench.reasonAgainst(0));
        Check.noSuchElement("but not of this change", () -> bench.reasonAgainst(1));
        Bench.lay(bench, 0, 2);
        Check.noSuchElement("the comment is gone", () -> bench.placeIn(0, 1));
        Check.due("but open", 'c', () -> bench.reasonAgainst(0));
        bench.resolve(0);
        Check.noSuchElement("resolved", () -> bench.reasonAgainst(0));
    }

    private static void reasonByApprovals() {
        ReviewBench bench = new ReviewBench();
        bench.giveRange(0, 9, 1);
        bench.giveRange(10, 19, 0);
        bench.open(0);
        Bench.lay(bench, 0, 1, 11);
        Check.due("missing", 'a', () -> bench.reasonAgainst(0));
        bench.approve(0, 1);
        Check.noSuchElement("the author need not approve", () -> bench.reasonAgainst(0));
        Bench.lay(bench, 0, 2, 11);
        Check.due("stale", 'a', () -> bench.reasonAgainst(0));
        Check.unsupported("land with a stale approval", () -> bench.land(0));
        bench.withdraw(0, 1);
        Check.due("taken back", 'a', () -> bench.reasonAgainst(0));
        Bench.lay(bench, 0, 11, 12);
        Check.noSuchElement("not needed any more", () -> bench.reasonAgainst(0));
        bench.giveRange(12, 12, 4);
        Check.due("needed by a range given later", 'a', () -> bench.reasonAgainst(0));
        bench.approve(0, 4);
        Check.due("land", 2, () -> bench.land(0));
    }

    private static void reasonBySize() {
        ReviewBench bench = Bench.withMain(1, 2, 3, 4, 5, 6, 7, 8);
        bench.open(0);
        bench.open(0);
        bench.open(0);
        Bench.lay(bench, 1, 11, 12, 13, 1, 2, 3, 4, 5, 6, 7, 8);
        Bench.lay(bench, 2, 1, 2, 3, 4, 5, 6, 7, 8, 21, 22);
        Bench.lay(bench, 3, 1, 2, 3, 4, 31, 5, 6, 7, 8);
        Check.due("land of eleven lines", 11, () -> bench.land(1));
        Check.due("thirteen lines would be too many", 's', () -> bench.reasonAgainst(2));
        Check.unsupported("land of thirteen lines", () -> bench.land(2));
        Check.due("the main text stays", "11 12 13 1 2 3 4 5 6 7 8", () -> Bench.mainText(bench));
        Check.due("land of twelve lines", 12, () -> bench.land(3));
        Check.due("twelve lines", "11 12 13 1 2 3 4 31 5 6 7 8", () -> Bench.mainText(bench));
        Bench.lay(bench, 2, 9, 1, 2, 3, 4, 5, 6, 7, 8, 21, 22);
        Check.due("m ahead of s", 'm', () -> bench.reasonAgainst(2));
        reasonByGreatestSize();
    }

    /** Both rows as long as can be: the merged text would have 22 lines. */
    private static void reasonByGreatestSize() {
        ReviewBench bench = Bench.withMain(50, 51);
        bench.open(0);
        bench.open(0);
        Bench.lay(bench, 1, 50, 1, 2, 3, 4, 5, 6, 7, 8, 9, 10, 51);
        Bench.lay(bench, 2, 21, 22, 23, 24, 25, 26, 27, 28, 29, 30, 50, 51);
        bench.land(1);
        Check.due("22 lines would be too many", 's', () -> bench.reasonAgainst(2));
    }

    private static void reasonAgainstThrows() {
        ReviewBench bench = new ReviewBench();
        Check.outOfBounds("reasonAgainst without a change", () -> bench.reasonAgainst(0));
        bench.open(0);
        bench.lay(0);
        for (int change : NO_CHANGES) {
            Check.outOfBounds("reasonAgainst change " + change, () -> bench.reasonAgainst(change));
        }
        Check.noSuchElement("no reason against an empty round", () -> bench.reasonAgainst(0));
    }

    private static void missingUser() {
        ReviewBench bench = new ReviewBench();
        bench.giveRange(0, 9, 4);
        bench.giveRange(10, 19, 2);
        bench.giveRange(20, 29, 0);
        bench.open(1);
        Bench.lay(bench, 0, 1, 11, 21, 90);
        Check.due("the lowest", 0, () -> bench.missingUser(0));
        bench.approve(0, 0);
        Check.due("the next", 2, () -> bench.missingUser(0));
        bench.approve(0, 2);
        Check.due("the greatest", 4, () -> bench.missingUser(0));
        bench.approve(0, 4);
        Check.noSuchElement("none", () -> bench.missingUser(0));
        Bench.lay(bench, 0, 1, 12, 21, 90);
        Check.due("a stale one", 2, () -> bench.missingUser(0));
        bench.withdraw(0, 0);
        Check.due("one that was taken back", 0, () -> bench.missingUser(0));
        Bench.lay(bench, 0, 1, 90);
        Check.noSuchElement("those that are not needed are not missing", () -> bench.missingUser(0));
        bench.land(0);
        bench.giveRange(90, 90, 3);
        Check.due("a change that has landed is asked too", 3, () -> bench.missingUser(0));
    }

    private static void missingUserThrows() {
        ReviewBench bench = new ReviewBench();
        Check.outOfBounds("missingUser without a change", () -> bench.missingUser(0));
        bench.giveRange(0, 9, 2);
        bench.open(2);
        for (int change : NO_CHANGES) {
            Check.outOfBounds("missingUser of change " + change, () -> bench.missingUser(change));
        }
        bench.addLine(0, 1);
        Check.noSuchElement("missingUser without a round", () -> bench.missingUser(0));
        bench.lay(0);
        Check.noSuchElement("the author is not missing", () -> bench.missingUser(0));
        ReviewBench second = Bench.withMain(1);
        second.giveRange(0, 9, 2);
        second.open(0);
        Check.noSuchElement("a base without a round misses nobody", () -> second.missingUser(1));
    }

    private static void landedAt() {
        ReviewBench bench = new ReviewBench();
        bench.open(0);
        bench.open(0);
        bench.open(0);
        bench.lay(2);
        bench.lay(0);
        bench.land(2);
        Check.due("the first", 2, () -> bench.landedAt(0));
        Check.noSuchElement("no second one yet", () -> bench.landedAt(1));
        bench.land(0);
        Check.due("the first stays", 2, () -> bench.landedAt(0));
        Check.due("the second", 0, () -> bench.landedAt(1));
        for (int position : new int[] {-1, 2, 3, 4, Integer.MIN_VALUE, Integer.MAX_VALUE}) {
            Check.noSuchElement("landedAt " + position, () -> bench.landedAt(position));
        }
    }

    private static void merging() {
        int[] base = {1, 2, 3, 4, 5};
        merges("both change apart", base, new int[] {9, 1, 2, 3, 4, 5}, new int[] {1, 2, 3, 5}, "9 1 2 3 5");
        merges("the same in both", base, new int[] {1, 8, 3, 4, 5}, new int[] {1, 8, 3, 4, 6, 5}, "1 8 3 4 6 5");
        merges("other lines at one place", base, new int[] {1, 8, 3, 4, 5}, new int[] {1, 7, 3, 4, 5}, "m");
        merges("lines side by side", base, new int[] {1, 8, 3, 4, 5}, new int[] {1, 2, 7, 4, 5}, "m");
        merges("main alone", base, new int[] {5}, base, "5");
        merges("the round alone", base, base, new int[] {6, 7}, "6 7");
        merges("both remove all", base, new int[] {}, new int[] {}, "");
        merges("one removes what the other changes", base, new int[] {1, 2, 4, 5}, new int[] {1, 2, 6, 4, 5}, "m");
        merges("behind the last steady line", base, new int[] {1, 2, 3, 4, 5, 6}, new int[] {0, 2, 3, 4, 5},
            "0 2 3 4 5 6");
        merges("one more than the other there", base, new int[] {1, 2, 3, 4, 5, 6}, new int[] {1, 2, 3, 4, 5, 6, 7}, "m");
        merges("from an empty base, the same", new int[] {}, new int[] {1, 2}, new int[] {1, 2}, "1 2");
        merges("from an empty base, not the same", new int[] {}, new int[] {1, 2}, new int[] {1}, "m");
        merges("the first of the same lines is steady", new int[] {1, 1}, new int[] {1}, new int[] {1, 1, 2}, "m");
        merges("kept by one script alone", new int[] {1, 2}, new int[] {2, 1}, new int[] {1, 2, 3}, "m");
    }

    private static void merges(String what, int[] base, int[] main, int[] round, String due) {
        ReviewBench bench = Bench.withRoundBeside(base, main, round);
        if (due.equals("m")) {
            Check.due(what, 'm', () -> bench.reasonAgainst(2));
        } else {
            Check.noSuchElement(what + ": no reason against", () -> bench.reasonAgainst(2));
            Check.due(what + ": land", 1, bench::landAll);
            Check.due(what, due, () -> Bench.mainText(bench));
        }
    }
}
