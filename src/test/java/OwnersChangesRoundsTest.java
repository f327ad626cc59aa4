/** Promises 1 to 7: a new object, giveRange, open, addLine, lay, landAfter, setPriority. */
public final class OwnersChangesRoundsTest {
    private static final int LEAST = Integer.MIN_VALUE;
    private static final int MOST = Integer.MAX_VALUE;

    private OwnersChangesRoundsTest() {
    }

    public static void main(String[] args) {
        newObject();
        giveRange();
        giveRangeThrows();
        open();
        addLine();
        addLineThrows();
        lay();
        layThrows();
        landAfter();
        landAfterThrows();
        landAfterOverOthers();
        setPriority();
        Check.end("OwnersChangesRoundsTest");
    }

    private static void newObject() {
        ReviewBench bench = new ReviewBench();
        Check.due("mainLines of a new bench", 0, bench::mainLines);
        Check.noSuchElement("mainLine of a new bench", () -> bench.mainLine(0));
        Check.noSuchElement("landedAt of a new bench", () -> bench.landedAt(0));
        Check.outOfBounds("rounds of a new bench", () -> bench.rounds(0));
        Check.outOfBounds("isOpen of a new bench", () -> bench.isOpen(0));
        for (int content = 0; content < 100; content++) {
            int asked = content;
            Check.noSuchElement("ownerOf of a new bench", () -> bench.ownerOf(asked));
        }
        Check.due("landAll of a new bench", 0, bench::landAll);
    }

    private static void giveRange() {
        ReviewBench bench = new ReviewBench();
        Check.due("the first range", 1, () -> bench.giveRange(0, 99, 4));
        Check.due("a range of one content", 2, () -> bench.giveRange(7, 7, 0));
        Check.due("owner below", 4, () -> bench.ownerOf(6));
        Check.due("owner in it", 0, () -> bench.ownerOf(7));
        Check.due("owner above", 4, () -> bench.ownerOf(8));
        Check.due("a range that covers another one", 3, () -> bench.giveRange(5, 9, 3));
        Check.due("owner by the last range", 3, () -> bench.ownerOf(7));
        Check.due("owner at the low end", 3, () -> bench.ownerOf(5));
        Check.due("owner at the high end", 3, () -> bench.ownerOf(9));
        Check.due("owner ahead of the low end", 4, () -> bench.ownerOf(4));
        Check.due("owner behind the high end", 4, () -> bench.ownerOf(10));
        Check.due("range 4", 4, () -> bench.giveRange(0, 0, 1));
        Check.due("range 5", 5, () -> bench.giveRange(99, 99, 2));
        Check.due("range 6", 6, () -> bench.giveRange(0, 0, 0));
        Check.due("owner of the least content", 0, () -> bench.ownerOf(0));
        Check.due("owner of the greatest content", 2, () -> bench.ownerOf(99));
    }

    private static void giveRangeThrows() {
        ReviewBench bench = new ReviewBench();
        bench.giveRange(10, 19, 1);
        String state = Bench.state(bench);
        for (int user : new int[] {-1, 5, LEAST, MOST}) {
            Check.outOfBounds("giveRange to user " + user, () -> bench.giveRange(0, 9, user));
            Check.outOfBounds("giveRange of no range to user " + user, () -> bench.giveRange(9, 100, user));
        }
        for (int content : new int[] {-1, 100, LEAST, MOST}) {
            Check.illegalArgument("giveRange from " + content, () -> bench.giveRange(content, 50, 0));
            Check.illegalArgument("giveRange to " + content, () -> bench.giveRange(50, content, 0));
            Check.illegalArgument("giveRange of " + content, () -> bench.giveRange(content, content, 0));
        }
        Check.illegalArgument("giveRange from above", () -> bench.giveRange(51, 50, 0));
        Check.due("giveRange that throws changes nothing", state, () -> Bench.state(bench));
        for (int range = 2; range <= 6; range++) {
            int due = range;
            Check.due("giveRange after those that threw", due, () -> bench.giveRange(0, 9, 2));
        }
        String full = Bench.state(bench);
        Check.illegalState("a range too many", () -> bench.giveRange(0, 99, 3));
        Check.illegalArgument("a wrong range too many", () -> bench.giveRange(0, 100, 3));
        Check.illegalArgument("a range too many from above", () -> bench.giveRange(3, 2, 3));
        Check.outOfBounds("a wrong user's range too many", () -> bench.giveRange(0, 100, 5));
        Check.due("a range too many changes nothing", full, () -> Bench.state(bench));
    }

    private static void open() {
        ReviewBench bench = new ReviewBench();
        for (int author : new int[] {-1, 5, LEAST, MOST}) {
            Check.outOfBounds("open of user " + author, () -> bench.open(author));
        }
        for (int change = 0; change < 4; change++) {
            int author = 4 - change;
            Check.due("open", change, () -> bench.open(author));
        }
        Check.due("rounds of the last one", 0, () -> bench.rounds(3));
        String state = Bench.state(bench);
        Check.illegalState("a change too many", () -> bench.open(0));
        Check.outOfBounds("a change too many of no user", () -> bench.open(5));
        Check.due("a change too many changes nothing", state, () -> Bench.state(bench));
        Check.outOfBounds("there is no change 4", () -> bench.rounds(4));
        Check.due("the draft is empty at first", 1, () -> bench.addLine(0, 0));
        openTakesTheMainTextAsBase();
    }

    private static void openTakesTheMainTextAsBase() {
        ReviewBench bench = Bench.withMain(1, 2, 3);
        bench.giveRange(0, 99, 1);
        bench.open(0);
        bench.open(1);
        Bench.lay(bench, 1, 1, 2, 3);
        Check.due("a round that is as the base alters nothing", false, () -> bench.needs(1, 1));
        Bench.lay(bench, 2, 1, 3);
        Check.due("the other change lands", 2, () -> bench.land(2));
        Check.due("the base stays as it was", false, () -> bench.needs(1, 1));
        bench.open(0);
        Bench.lay(bench, 3, 1, 3);
        Check.due("a later base is the later main text", false, () -> bench.needs(3, 1));
    }

    private static void addLine() {
        ReviewBench bench = new ReviewBench();
        bench.open(0);
        bench.open(1);
        for (int line = 1; line <= 12; line++) {
            int content = line == 1 ? 0 : line == 12 ? 99 : 50 + line;
            Check.due("addLine " + line, line, () -> bench.addLine(0, content));
        }
        Check.due("addLine to another draft", 1, () -> bench.addLine(1, 7));
        bench.lay(0);
        Check.due("the lines are one behind the other", "0 52 53 54 55 56 57 58 59 60 61 99",
            () -> Bench.round(bench, 0, 0));
        Check.due("the draft is empty after lay", 1, () -> bench.addLine(0, 3));
        Check.due("the other draft is not", 2, () -> bench.addLine(1, 8));
    }

    private static void addLineThrows() {
        ReviewBench bench = new ReviewBench();
        Check.outOfBounds("addLine without a change", () -> bench.addLine(0, 0));
        bench.open(0);
        for (int line = 0; line < 12; line++) {
            bench.addLine(0, line);
        }
        for (int change : new int[] {-1, 1, LEAST, MOST}) {
            Check.outOfBounds("addLine to change " + change, () -> bench.addLine(change, 0));
            Check.outOfBounds("a wrong addLine to change " + change, () -> bench.addLine(change, 100));
        }
        for (int content : new int[] {-1, 100, LEAST, MOST}) {
            Check.illegalArgument("addLine of " + content, () -> bench.addLine(0, content));
        }
        Check.illegalState("a line too many", () -> bench.addLine(0, 0));
        bench.lay(0);
        Check.due("a line that was not added is not there", "0 1 2 3 4 5 6 7 8 9 10 11", () -> Bench.round(bench, 0, 0));
        Check.due("addLine before landing", 1, () -> bench.addLine(0, 1));
        bench.land(0);
        Check.illegalState("addLine when it has landed", () -> bench.addLine(0, 1));
        Check.illegalArgument("a wrong addLine when it has landed", () -> bench.addLine(0, -1));
    }

    private static void lay() {
        ReviewBench bench = new ReviewBench();
        bench.open(0);
        bench.open(0);
        Check.due("round 0", 0, () -> Bench.lay(bench, 0, 4, 4, 5));
        Check.due("an empty round 1", 1, () -> bench.lay(0));
        Check.due("round 2", 2, () -> Bench.lay(bench, 0, 6));
        Check.due("round 0 of another change", 0, () -> Bench.lay(bench, 1, 9));
        Check.due("round 3", 3, () -> Bench.lay(bench, 0, 0, 1, 2, 3, 4, 5, 6, 7, 8, 9, 10, 11));
        Check.due("the lines of round 0", "4 4 5", () -> Bench.round(bench, 0, 0));
        Check.due("the lines of round 1", "", () -> Bench.round(bench, 0, 1));
        Check.due("the lines of round 2", "6", () -> Bench.round(bench, 0, 2));
        Check.due("the lines of round 3", "0 1 2 3 4 5 6 7 8 9 10 11", () -> Bench.round(bench, 0, 3));
        Check.due("addLine behind the last round", 1, () -> bench.addLine(0, 3));
        String state = Bench.state(bench);
        Check.illegalState("a round too many", () -> bench.lay(0));
        Check.due("a round too many changes nothing", state, () -> Bench.state(bench));
        Check.due("and leaves the draft", 2, () -> bench.addLine(0, 3));
    }

    private static void layThrows() {
        ReviewBench bench = new ReviewBench();
        Check.outOfBounds("lay without a change", () -> bench.lay(0));
        bench.open(0);
        for (int change : new int[] {-1, 1, LEAST, MOST}) {
            Check.outOfBounds("lay of change " + change, () -> bench.lay(change));
        }
        bench.lay(0);
        bench.addLine(0, 1);
        bench.land(0);
        Check.illegalState("lay when it has landed", () -> bench.lay(0));
        Check.due("rounds stay", 1, () -> bench.rounds(0));
    }

    private static void landAfter() {
        ReviewBench bench = new ReviewBench();
        for (int change = 0; change < 4; change++) {
            bench.open(0);
            bench.lay(change);
        }
        Check.due("landAfter one", 1, () -> bench.landAfter(2, 0));
        Check.due("the same again", 1, () -> bench.landAfter(2, 0));
        Check.due("landAfter another", 2, () -> bench.landAfter(2, 1));
        Check.due("only those of the change itself count", 1, () -> bench.landAfter(3, 2));
        Check.due("one that it had to land after over others", 2, () -> bench.landAfter(3, 0));
        Check.due("reason of 2", 'd', () -> bench.reasonAgainst(2));
        Check.due("land 0", 0, () -> bench.land(0));
        Check.due("reason of 2 with 1 left", 'd', () -> bench.reasonAgainst(2));
        Check.due("a change that has landed is one to land after", 1, () -> bench.landAfter(1, 0));
        Check.noSuchElement("and is no reason", () -> bench.reasonAgainst(1));
        Check.due("land 1", 0, () -> bench.land(1));
        Check.noSuchElement("no reason of 2", () -> bench.reasonAgainst(2));
        Check.due("reason of 3", 'd', () -> bench.reasonAgainst(3));
        Check.due("those that have landed count too", 3, () -> bench.landAfter(3, 1));
    }

    private static void landAfterThrows() {
        ReviewBench bench = new ReviewBench();
        bench.open(0);
        for (int change : new int[] {-1, 1, LEAST, MOST}) {
            Check.outOfBounds("landAfter of change " + change, () -> bench.landAfter(change, 0));
            Check.outOfBounds("landAfter after change " + change, () -> bench.landAfter(0, change));
            Check.outOfBounds("landAfter of no change after itself", () -> bench.landAfter(change, change));
        }
        Check.unsupported("landAfter after itself", () -> bench.landAfter(0, 0));
        bench.lay(0);
        Check.noSuchElement("what was refused is no reason", () -> bench.reasonAgainst(0));
        bench.open(1);
        bench.landAfter(1, 0);
        bench.land(0);
        Check.illegalState("landAfter when it has landed", () -> bench.landAfter(0, 1));
        Check.illegalState("landAfter after itself when it has landed", () -> bench.landAfter(0, 0));
        Check.outOfBounds("landAfter after no change when it has landed", () -> bench.landAfter(0, 2));
    }

    private static void landAfterOverOthers() {
        ReviewBench bench = new ReviewBench();
        for (int change = 0; change < 4; change++) {
            bench.open(0);
            bench.lay(change);
        }
        bench.landAfter(3, 0);
        bench.landAfter(0, 2);
        bench.landAfter(2, 1);
        int[][] rings = {{0, 3}, {2, 0}, {1, 2}, {2, 3}, {1, 0}, {1, 3}};
        for (int[] ring : rings) {
            Check.unsupported("landAfter in a ring: " + ring[0] + ", " + ring[1],
                () -> bench.landAfter(ring[0], ring[1]));
        }
        Check.due("no ring: 3 after 1", 2, () -> bench.landAfter(3, 1));
        Check.due("no ring: 0 after 1", 2, () -> bench.landAfter(0, 1));
        Check.due("all land, in this order", 4, bench::landAll);
        int[] order = {1, 2, 0, 3};
        for (int position = 0; position < 4; position++) {
            int asked = position;
            Check.due("landedAt " + position, order[position], () -> bench.landedAt(asked));
        }
    }

    private static void setPriority() {
        ReviewBench bench = new ReviewBench();
        Check.outOfBounds("setPriority without a change", () -> bench.setPriority(0, 0));
        bench.open(0);
        bench.open(0);
        Check.due("the priority at first", 0, () -> bench.setPriority(0, 9));
        for (int change : new int[] {-1, 2, LEAST, MOST}) {
            Check.outOfBounds("setPriority of change " + change, () -> bench.setPriority(change, 1));
            Check.outOfBounds("a wrong setPriority of change " + change, () -> bench.setPriority(change, 10));
        }
        for (int priority : new int[] {-1, 10, LEAST, MOST}) {
            Check.illegalArgument("setPriority to " + priority, () -> bench.setPriority(0, priority));
        }
        Check.due("the priority before", 9, () -> bench.setPriority(0, 0));
        Check.due("the priority before that was 0", 0, () -> bench.setPriority(0, 5));
        Check.due("another change has its own", 0, () -> bench.setPriority(1, 1));
        bench.lay(0);
        bench.land(0);
        Check.due("setPriority when it has landed", 5, () -> bench.setPriority(0, 6));
        Check.due("that has been set", 6, () -> bench.setPriority(0, 6));
    }
}
