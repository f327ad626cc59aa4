/** The boundary cases of landing and merging in the document's terms, sentence by sentence. */
public final class BoundaryMergingTest {
    private static final char NONE = ' ';

    private BoundaryMergingTest() {
    }

    public static void main(String[] args) {
        Sentences.run(BoundaryMergingTest.class);
    }

    private static void reasonIs(char due, ReviewBench bench, int change) {
        Object answer = due == NONE ? "throws.NoSuchElementException" : (Object) due;
        Check.due("the reason against change " + change, answer, () -> bench.reasonAgainst(change));
    }

    // ---- landing

    /**
     * Change 2 with each of these reasons against it; change 3 is the one after which it may have to land. The rows
     * that are in conflict are not those of which there are too many.
     */
    private static ReviewBench withReasons(boolean d, boolean c, boolean a, boolean m, boolean s) {
        ReviewBench bench = Bench.withMain(50, 51);
        for (int change = 1; change < 4; change++) {
            bench.open(0);
        }
        Bench.draft(bench, 1, 1, 50);
        Bench.draft(bench, 1, Bench.linesFrom(2, s ? 9 : 0));
        Bench.lay(bench, 1, 51);
        bench.land(1);
        Bench.draft(bench, 2, Bench.linesFrom(20, m ? 1 : 0));
        Bench.lay(bench, 2, 50, 51, 60, 61, 62);
        if (d) {
            bench.landAfter(2, 3);
        }
        if (c) {
            bench.comment(2, 0);
        }
        if (a) {
            bench.giveRange(60, 60, 4);
        }
        return bench;
    }

    @Holds(at = "Terms",
        sentence = "These are the reasons against landing a change, and the first one that holds counts:")
    static void theFirstReasonThatHoldsCounts() {
        for (int reasons = 0; reasons < 32; reasons++) {
            boolean d = (reasons & 16) != 0;
            boolean c = (reasons & 8) != 0;
            boolean a = (reasons & 4) != 0;
            boolean m = (reasons & 2) != 0;
            boolean s = (reasons & 1) != 0;
            char due = d ? 'd' : c ? 'c' : a ? 'a' : m ? 'm' : s ? 's' : NONE;
            reasonIs(due, withReasons(d, c, a, m, s), 2);
        }
    }

    @Holds(at = "Terms",
        sentence = "These are the reasons against landing a change, and the first one that holds counts:")
    static void thatItHasNoRoundIsAheadOfWhatItWaitsFor() {
        ReviewBench bench = Bench.withChanges(2);
        bench.landAfter(0, 1);
        reasonIs('r', bench, 0);
        bench.lay(0);
        reasonIs('d', bench, 0);
    }

    @Holds(at = "Terms", sentence = "'l', it has landed;")
    static void thatItHasLandedIsAheadOfAll() {
        ReviewBench bench = Bench.withRound(1);
        reasonIs(NONE, bench, 0);
        bench.land(0);
        reasonIs('l', bench, 0);
        bench.giveRange(0, 99, 1);
        Check.due("an approval is missing", 1, () -> bench.missingUser(0));
        reasonIs('l', bench, 0);
        bench.open(1);
        Bench.lay(bench, 1, 2);
        bench.land(1);
        Check.due("a conflict with the main text by now", "2", () -> Bench.mainText(bench));
        reasonIs('l', bench, 0);
        Check.unsupported("land again", () -> bench.land(0));
    }

    @Holds(at = "Terms", sentence = "'r', it has no round;")
    static void thatItHasNoRound() {
        ReviewBench bench = Bench.withMain(1, 2);
        bench.giveRange(0, 99, 1);
        bench.open(0);
        reasonIs('r', bench, 1);
        bench.addLine(1, 5);
        reasonIs('r', bench, 1);
        bench.lay(1);
        reasonIs('a', bench, 1);
        ReviewBench empty = Bench.withRound();
        reasonIs(NONE, empty, 0);
    }

    @Holds(at = "Terms", sentence = "'d', a change after which it has to land has not landed;")
    static void thatOneOfSeveralHasNotLanded() {
        for (int last = 1; last < 4; last++) {
            ReviewBench bench = Bench.withChanges(4);
            for (int change = 0; change < 4; change++) {
                bench.lay(change);
            }
            for (int other = 1; other < 4; other++) {
                bench.landAfter(0, other);
            }
            for (int other = 1; other < 4; other++) {
                if (other != last) {
                    bench.land(other);
                }
            }
            reasonIs('d', bench, 0);
            bench.land(last);
            reasonIs(NONE, bench, 0);
        }
    }

    @Holds(at = "Terms", sentence = "'d', a change after which it has to land has not landed;")
    static void thatOneHasNotLandedThoughNothingIsInItsWay() {
        for (int change = 0; change < 4; change++) {
            for (int other = 0; other < 4; other++) {
                if (other != change) {
                    ReviewBench bench = Bench.withChanges(4);
                    bench.lay(change);
                    bench.lay(other);
                    bench.landAfter(change, other);
                    reasonIs(NONE, bench, other);
                    reasonIs('d', bench, change);
                    bench.land(other);
                    reasonIs(NONE, bench, change);
                }
            }
        }
    }

    @Holds(at = "Terms", sentence = "'c', one of its comments is open, gone or not;")
    static void thatOneOfSeveralCommentsIsOpen() {
        for (int last = 0; last < 3; last++) {
            ReviewBench bench = Bench.withRound(1, 2, 3);
            bench.open(0);
            bench.lay(1);
            for (int comment = 0; comment < 3; comment++) {
                bench.comment(0, comment);
            }
            for (int comment = 0; comment < 3; comment++) {
                if (comment != last) {
                    bench.resolve(comment);
                }
            }
            reasonIs('c', bench, 0);
            reasonIs(NONE, bench, 1);
            Bench.lay(bench, 0, 4);
            int gone = last;
            Check.noSuchElement("it is gone", () -> bench.placeIn(gone, 1));
            reasonIs('c', bench, 0);
            bench.resolve(last);
            reasonIs(NONE, bench, 0);
        }
    }

    @Holds(at = "Terms", sentence = "'a', an approval that it needs is missing or stale;")
    static void thatAnApprovalIsMissingOrStale() {
        ReviewBench bench = Bench.withRound(1, 2);
        bench.giveRange(1, 1, 1);
        bench.giveRange(2, 2, 4);
        reasonIs('a', bench, 0);
        bench.approve(0, 1);
        reasonIs('a', bench, 0);
        bench.approve(0, 3);
        reasonIs('a', bench, 0);
        bench.approve(0, 4);
        reasonIs(NONE, bench, 0);
        Bench.lay(bench, 0, 1, 2, 2);
        reasonIs('a', bench, 0);
        bench.approve(0, 4);
        reasonIs(NONE, bench, 0);
        bench.withdraw(0, 1);
        reasonIs('a', bench, 0);
    }

    @Holds(at = "Terms", sentence = "'a', an approval that it needs is missing or stale;")
    static void thatAStaleApprovalIsNotNeeded() {
        ReviewBench bench = Bench.withRound(1);
        bench.giveRange(1, 1, 1);
        bench.approve(0, 1);
        Bench.lay(bench, 0, 2);
        Check.due("it is stale", true, () -> bench.isStale(0, 1));
        Check.due("and not needed", false, () -> bench.needs(0, 1));
        reasonIs(NONE, bench, 0);
    }

    @Holds(at = "Terms", sentence = "'m', there is a conflict when it is merged;")
    static void thatThereIsAConflict() {
        ReviewBench bench = Bench.withChanges(2);
        Bench.lay(bench, 0, 1);
        Bench.lay(bench, 1, 2);
        reasonIs(NONE, bench, 1);
        bench.land(0);
        reasonIs('m', bench, 1);
        Bench.lay(bench, 1, 1);
        reasonIs(NONE, bench, 1);
    }

    @Holds(at = "Terms", sentence = "'s', the merged text would have more than 12 lines.")
    static void thatThereAreThirteenLinesButNotTwelve() {
        for (int more = 0; more <= 11; more++) {
            ReviewBench bench = Bench.withMain(50);
            bench.open(0);
            bench.open(0);
            Bench.draft(bench, 1, Bench.linesFrom(1, 6));
            Bench.lay(bench, 1, 50);
            bench.addLine(2, 50);
            Bench.lay(bench, 2, Bench.linesFrom(60, more));
            bench.land(1);
            reasonIs(7 + more > 12 ? 's' : NONE, bench, 2);
            if (7 + more <= 12) {
                Check.due("land of " + (7 + more), 7 + more, () -> bench.land(2));
            }
        }
    }

    @Holds(at = "Terms", sentence = "'s', the merged text would have more than 12 lines.")
    static void thatThereAreAsManyLinesAsCanBe() {
        ReviewBench bench = Bench.withMain(50);
        bench.open(0);
        bench.open(0);
        Bench.draft(bench, 1, Bench.linesFrom(1, 11));
        Bench.lay(bench, 1, 50);
        bench.addLine(2, 50);
        Bench.lay(bench, 2, Bench.linesFrom(60, 11));
        bench.land(1);
        reasonIs('s', bench, 2);
        Check.unsupported("land of 23 lines", () -> bench.land(2));
        Check.due("the main text stays", "1 2 3 4 5 6 7 8 9 10 11 50", () -> Bench.mainText(bench));
    }

    @Holds(at = "Terms", sentence = "When a change lands, the merged text becomes the main text.")
    static void whatIsMergedBecomesTheMainText() {
        ReviewBench bench = Bench.withMain(1, 2, 3);
        bench.open(0);
        bench.open(0);
        Bench.lay(bench, 1, 9, 1, 2, 3);
        Bench.lay(bench, 2, 1, 2);
        bench.land(1);
        Check.due("the first", "9 1 2 3", () -> Bench.mainText(bench));
        bench.land(2);
        Check.due("the second, merged with it", "9 1 2", () -> Bench.mainText(bench));
        Check.due("its round stays", "1 2", () -> Bench.round(bench, 2, 0));
    }

    // ---- merging

    /** Merges the round into the main text, both from one base; "m" is due if there is a conflict. */
    private static void merges(int[] base, int[] main, int[] round, String due) {
        ReviewBench bench = Bench.withRoundBeside(base, main, round);
        boolean conflict = due.equals("m");
        reasonIs(conflict ? 'm' : NONE, bench, 2);
        Check.due("landAll", conflict ? 0 : 1, bench::landAll);
        if (!conflict) {
            Check.due("the merged text", due, () -> Bench.mainText(bench));
        }
    }

    private static int[] text(int... lines) {
        return lines;
    }

    @Holds(at = "Terms", sentence = "A line of the base is steady if the script from the base to the main text"
        + " and that from the base to the present round both keep it.")
    static void aLineIsSteadyIfBothKeepIt() {
        merges(text(1, 2, 3), text(8, 2, 3), text(1, 2, 9), "8 2 9");
        merges(text(1, 2, 3), text(8, 3), text(1, 2, 9), "m");
        merges(text(1, 2, 3), text(1, 8), text(9, 2, 3), "m");
        merges(text(1, 2, 3), text(8, 2), text(2, 9), "m");
    }

    @Holds(at = "Terms", sentence = "A line of the base is steady if the script from the base to the main text"
        + " and that from the base to the present round both keep it.")
    static void theScriptsTellWhichLineIsSteady() {
        merges(text(1, 1), text(1), text(1, 1, 2), "m");
        merges(text(1, 1), text(1), text(2, 1, 1), "2 1");
        merges(text(1, 2), text(2, 1), text(1, 2, 3), "m");
        merges(text(1, 2), text(2, 1), text(3, 1, 2), "m");
        merges(text(1, 2), text(2, 1), text(1, 2), "2 1");
    }

    @Holds(at = "Terms", sentence = "The rows of lines ahead of the first steady line, between two of them"
        + " and behind the last one are merged one by one:")
    static void rowsAheadBetweenAndBehind() {
        merges(text(1, 2), text(8, 1, 2), text(1, 2, 9), "8 1 2 9");
        merges(text(1, 2), text(1, 8, 2), text(9, 1, 2), "9 1 8 2");
        merges(text(1, 2), text(1, 2, 8), text(1, 9, 2), "1 9 2 8");
        merges(text(1, 2), text(8, 1, 2), text(9, 1, 2), "m");
        merges(text(1, 2), text(1, 8, 2), text(1, 9, 2), "m");
        merges(text(1, 2), text(1, 2, 8), text(1, 2, 9), "m");
        merges(text(1, 2, 3, 4), text(7, 1, 2, 8, 3, 4), text(1, 6, 2, 3, 5, 4, 9), "7 1 6 2 8 3 5 4 9");
    }

    @Holds(at = "Terms", sentence = "The rows of lines ahead of the first steady line, between two of them"
        + " and behind the last one are merged one by one:")
    static void oneRowWithoutASteadyLine() {
        merges(text(), text(), text(), "");
        merges(text(), text(1), text(), "1");
        merges(text(), text(), text(1), "1");
        merges(text(), text(1), text(1), "1");
        merges(text(), text(1), text(2), "m");
        merges(text(1), text(), text(), "");
        merges(text(1), text(), text(1), "");
        merges(text(1), text(1), text(), "");
        merges(text(1, 2), text(1), text(2), "m");
        merges(text(1, 2), text(), text(3), "m");
    }

    @Holds(at = "Terms",
        sentence = "if the row of the main text is the same as that of the base, the row of the round is taken;")
    static void theRowOfTheRoundIsTaken() {
        merges(text(1, 2, 3), text(1, 2, 3), text(1, 9, 8, 3), "1 9 8 3");
        merges(text(1, 2, 3), text(1, 2, 3), text(1, 3), "1 3");
        merges(text(1, 2, 3), text(1, 2, 3), text(), "");
        merges(text(1, 2, 3), text(1, 2, 3), text(1, 2, 3), "1 2 3");
        merges(Bench.linesFrom(1, 12), Bench.linesFrom(1, 12), Bench.linesFrom(20, 12),
            "20 21 22 23 24 25 26 27 28 29 30 31");
    }

    @Holds(at = "Terms", sentence = "otherwise, if that of the round is the same as that of the base,"
        + " or as that of the main text, the row of the main text is taken;")
    static void theRowOfTheMainTextIsTaken() {
        merges(text(1, 2, 3), text(1, 9, 8, 3), text(1, 2, 3), "1 9 8 3");
        merges(text(1, 2, 3), text(), text(1, 2, 3), "");
        merges(text(1, 2, 3), text(1, 9, 8, 3), text(1, 9, 8, 3), "1 9 8 3");
        merges(text(1, 2, 3), text(1, 3), text(1, 3), "1 3");
        merges(text(1, 2, 3), text(4), text(4), "4");
        merges(Bench.linesFrom(1, 12), Bench.linesFrom(20, 12), Bench.linesFrom(20, 12),
            "20 21 22 23 24 25 26 27 28 29 30 31");
    }

    @Holds(at = "Terms", sentence = "otherwise, there is a conflict.")
    static void otherwiseThereIsAConflict() {
        merges(text(1, 2, 3), text(1, 8, 3), text(1, 9, 3), "m");
        merges(text(1, 2, 3), text(1, 8, 3), text(1, 3), "m");
        merges(text(1, 2, 3), text(1, 3), text(1, 9, 3), "m");
        merges(text(1, 2, 3), text(1, 8, 3), text(1, 8, 8, 3), "m");
        merges(text(1, 2, 3), text(1, 8, 7, 3), text(1, 8, 3), "m");
        merges(text(1, 2, 3), text(1, 8, 7, 3), text(1, 8, 6, 3), "m");
        merges(text(1, 2, 3), text(1, 8, 7, 3), text(1, 6, 7, 3), "m");
        merges(text(1, 2, 3), text(8, 1, 2, 3), text(9, 1, 2, 4), "m");
    }

    @Holds(at = "Terms", sentence = "Steady lines stay between the rows.")
    static void steadyLinesStay() {
        merges(Bench.linesFrom(1, 12), Bench.linesFrom(1, 11), Bench.linesFrom(2, 11), "2 3 4 5 6 7 8 9 10 11");
        merges(text(1, 2, 3), text(1, 8, 2, 3), text(1, 2, 9, 3), "1 8 2 9 3");
        merges(text(1, 2, 3), text(2), text(1, 2, 3), "2");
        merges(text(1, 1, 1), text(8, 1, 1, 1), text(1, 1, 1, 9), "8 1 1 1 9");
    }
}
