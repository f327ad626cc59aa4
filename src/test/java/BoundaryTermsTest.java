/** The boundary cases of the document's terms, sentence by sentence; landing and merging are in BoundaryMergingTest. */
public final class BoundaryTermsTest {
    private static final int GONE = -1;
    private static final int LAST_CALL = 512;

    private BoundaryTermsTest() {
    }

    public static void main(String[] args) {
        Sentences.run(BoundaryTermsTest.class);
    }

    // ---- what it is

    @Holds(at = "What it is", sentence = "An object is used for at most 512 calls after it has been made")
    static void theLastCallIsAnsweredToo() {
        ReviewBench bench = Bench.withRound(7);
        bench.giveRange(0, 99, 1);
        bench.approve(0, 1);
        for (int call = 6; call < LAST_CALL; call++) {
            Check.due("call " + call, 0, bench::mainLines);
        }
        Check.due("the last call", 1, () -> bench.land(0));
    }

    private static void askAll(ReviewBench bench) {
        Check.outcome(() -> bench.reasonAgainst(1));
        Check.outcome(() -> bench.missingUser(1));
        Check.outcome(() -> bench.landedAt(0));
        bench.mainLines();
        bench.mainLine(0);
        bench.rounds(1);
        bench.lines(1, 0);
        bench.lineAt(1, 0, 0);
        for (int from = 0; from < 2; from++) {
            bench.edits(1, from, 1 - from);
            bench.editsByWays(1, from, 1 - from);
            bench.placeIn(0, from);
            bench.placeByComparing(0, from);
        }
        bench.ownerOf(5);
        bench.isOpen(0);
        bench.openComments(1);
        for (int user = 0; user < 5; user++) {
            int asked = user;
            bench.needs(1, user);
            bench.hasApproved(1, user);
            Check.outcome(() -> bench.isStale(1, asked));
        }
    }

    private static ReviewBench withAllSorts() {
        ReviewBench bench = Bench.withMain(4, 5);
        bench.giveRange(0, 9, 1);
        bench.open(0);
        bench.open(2);
        bench.landAfter(1, 2);
        bench.setPriority(1, 3);
        Bench.lay(bench, 1, 4, 5, 6);
        bench.comment(1, 1);
        bench.approve(1, 1);
        bench.approve(1, 3);
        Bench.lay(bench, 1, 5, 7);
        Bench.draft(bench, 1, 8);
        return bench;
    }

    @Holds(at = "Terms", sentence = "Calls lay rounds, comment, approve and land; all others are questions.")
    static void questionsChangeNothing() {
        ReviewBench asked = withAllSorts();
        askAll(asked);
        askAll(asked);
        String due = Bench.goneOn(withAllSorts());
        Check.due("a bench that was asked", due, () -> Bench.goneOn(asked));
        ReviewBench askedFirst = withAllSorts();
        askAll(askedFirst);
        String dueOfCalls = Bench.called(withAllSorts());
        Check.due("the calls on a bench that was asked", dueOfCalls, () -> Bench.called(askedFirst));
    }

    // ---- texts

    @Holds(at = "Terms",
        sentence = "A line has a content from 0 to 99, and two lines are the same if their contents are.")
    static void linesAreTheSameByTheirContents() {
        for (int content : new int[] {0, 1, 98, 99}) {
            ReviewBench bench = Bench.withRound(content);
            Bench.lay(bench, 0, content);
            Bench.lay(bench, 0, content == 0 ? 1 : content - 1);
            Check.due("the same content", 0, () -> bench.edits(0, 0, 1));
            Check.due("the same content, by ways", 0, () -> bench.editsByWays(0, 0, 1));
            Check.due("the next content", 2, () -> bench.edits(0, 1, 2));
            Check.due("the next content, by ways", 2, () -> bench.editsByWays(0, 1, 2));
            Check.due("the content", content, () -> bench.lineAt(0, 0, 0));
        }
        Check.illegalArgument("content -1", () -> Bench.withChanges(1).addLine(0, -1));
        Check.illegalArgument("content 100", () -> Bench.withChanges(1).addLine(0, 100));
    }

    @Holds(at = "Terms", sentence = "A text has at most 12 lines, numbered from 0.")
    static void aTextHasTwelveLines() {
        ReviewBench bench = Bench.withChanges(1);
        for (int line = 0; line < 12; line++) {
            bench.addLine(0, 80 + line);
        }
        Check.illegalState("a thirteenth", () -> bench.addLine(0, 1));
        bench.lay(0);
        bench.land(0);
        for (int line = 0; line < 12; line++) {
            int asked = line;
            Check.due("line " + asked + " of the round", 80 + asked, () -> bench.lineAt(0, 0, asked));
            Check.due("line " + asked + " of the main text", 80 + asked, () -> bench.mainLine(asked));
        }
        Check.noSuchElement("line 12 of the round", () -> bench.lineAt(0, 0, 12));
        Check.noSuchElement("line 12 of the main text", () -> bench.mainLine(12));
    }

    @Holds(at = "Terms", sentence = "The main text is empty at first.")
    static void theMainTextIsEmptyAtFirst() {
        ReviewBench bench = Bench.withRound(1);
        Check.due("with a round that has not landed", 0, bench::mainLines);
        Check.noSuchElement("its first line", () -> bench.mainLine(0));
    }

    // ---- changes

    @Holds(at = "Terms", sentence = "There are the users 0 to 4.")
    static void usersFromTheLeastToTheGreatest() {
        for (int user = 0; user <= 4; user++) {
            int own = user;
            int other = 4 - user == user ? 0 : 4 - user;
            ReviewBench bench = new ReviewBench();
            Check.due("giveRange", 1, () -> bench.giveRange(0, 99, own));
            Check.due("open", 0, () -> bench.open(other));
            Bench.lay(bench, 0, 1);
            Check.due("needs", true, () -> bench.needs(0, own));
            Check.due("approve", 1, () -> bench.approve(0, own));
            Check.due("hasApproved", true, () -> bench.hasApproved(0, own));
            Check.due("isStale", false, () -> bench.isStale(0, own));
            Check.due("withdraw", 0, () -> bench.withdraw(0, own));
        }
    }

    @Holds(at = "Terms", sentence = "There are the users 0 to 4.")
    static void noOtherUsers() {
        for (int user : new int[] {-1, 5}) {
            ReviewBench bench = Bench.withRound(1);
            Check.outOfBounds("giveRange to user " + user, () -> bench.giveRange(0, 99, user));
            Check.outOfBounds("open by user " + user, () -> bench.open(user));
            Check.outOfBounds("approve by user " + user, () -> bench.approve(0, user));
            Check.outOfBounds("withdraw by user " + user, () -> bench.withdraw(0, user));
            Check.outOfBounds("needs of user " + user, () -> bench.needs(0, user));
            Check.outOfBounds("hasApproved by user " + user, () -> bench.hasApproved(0, user));
            Check.outOfBounds("isStale by user " + user, () -> bench.isStale(0, user));
        }
    }

    @Holds(at = "Terms",
        sentence = "At most 4 changes have the numbers 0 to n - 1 in the order in which they were opened.")
    static void changesAreNumberedAsTheyWereOpened() {
        ReviewBench bench = new ReviewBench();
        int[] authors = {3, 1, 4, 0};
        for (int change = 0; change < 4; change++) {
            int author = authors[change];
            Check.due("open", change, () -> bench.open(author));
            bench.lay(change);
        }
        Check.illegalState("a fifth", () -> bench.open(2));
        Check.outOfBounds("change 4", () -> bench.rounds(4));
        for (int change = 0; change < 4; change++) {
            int asked = change;
            Check.illegalState("the author of " + change, () -> bench.approve(asked, authors[asked]));
            Check.due("another user", 1, () -> bench.approve(asked, 2));
        }
    }

    @Holds(at = "Terms", sentence = "A change has an author, a base, which is the main text when it is opened,"
        + " a draft, which is empty at first, and at most 4 rounds, numbered from 0; a round is a text.")
    static void theBaseIsTheMainTextWhenTheChangeIsOpened() {
        ReviewBench bench = Bench.withMain(1, 2);
        bench.giveRange(1, 1, 1);
        bench.giveRange(2, 2, 2);
        bench.giveRange(3, 3, 3);
        bench.open(0);
        bench.open(0);
        Bench.lay(bench, 1, 2, 3);
        bench.approve(1, 1);
        bench.approve(1, 3);
        bench.land(1);
        Bench.lay(bench, 2, 1, 2);
        Check.due("1 is a line of the base", false, () -> bench.needs(2, 1));
        Check.due("3 is not", false, () -> bench.needs(2, 3));
        bench.open(0);
        Bench.lay(bench, 3, 1, 2);
        Check.due("1 is no line of the later base", true, () -> bench.needs(3, 1));
        Check.due("2 is", false, () -> bench.needs(3, 2));
        Check.due("3 is", true, () -> bench.needs(3, 3));
    }

    @Holds(at = "Terms", sentence = "A change has an author, a base, which is the main text when it is opened,"
        + " a draft, which is empty at first, and at most 4 rounds, numbered from 0; a round is a text.")
    static void theBaseMayBeEmptyAndFull() {
        ReviewBench bench = Bench.withChanges(2);
        int[] full = Bench.linesFrom(20, 12);
        Bench.lay(bench, 0, full);
        bench.land(0);
        bench.open(0);
        bench.giveRange(0, 99, 1);
        Bench.lay(bench, 1, full);
        Bench.lay(bench, 2, full);
        Check.due("an empty base", true, () -> bench.needs(1, 1));
        Check.due("a full base", false, () -> bench.needs(2, 1));
        bench.lay(1);
        bench.lay(2);
        Check.due("an empty round of an empty base", false, () -> bench.needs(1, 1));
        Check.due("an empty round of a full base", true, () -> bench.needs(2, 1));
    }

    @Holds(at = "Terms", sentence = "A change has an author, a base, which is the main text when it is opened,"
        + " a draft, which is empty at first, and at most 4 rounds, numbered from 0; a round is a text.")
    static void theDraftIsEmptyAtFirst() {
        ReviewBench bench = Bench.withMain(1, 2);
        bench.open(0);
        Check.due("its first round", 0, () -> bench.lay(1));
        Check.due("a draft that holds no line of the main text", 0, () -> bench.lines(1, 0));
        bench.open(0);
        Check.due("its first line", 1, () -> bench.addLine(2, 3));
    }

    @Holds(at = "Terms", sentence = "A change has an author, a base, which is the main text when it is opened,"
        + " a draft, which is empty at first, and at most 4 rounds, numbered from 0; a round is a text.")
    static void fourRoundsOfEachOfFourChanges() {
        ReviewBench bench = Bench.withChanges(4);
        for (int change = 0; change < 4; change++) {
            for (int round = 0; round < 4; round++) {
                int changed = change;
                bench.addLine(change, 10 * change + round);
                Check.due("lay", round, () -> bench.lay(changed));
            }
        }
        for (int change = 0; change < 4; change++) {
            int asked = change;
            Check.illegalState("a fifth round", () -> bench.lay(asked));
            for (int round = 0; round < 4; round++) {
                int next = round;
                Check.due("its line", 10 * asked + next, () -> bench.lineAt(asked, next, 0));
            }
        }
    }

    @Holds(at = "Terms", sentence = "The present round is the last one.")
    static void thePresentRoundIsTheLastOne() {
        ReviewBench bench = new ReviewBench();
        bench.open(0);
        bench.giveRange(1, 1, 1);
        for (int round = 0; round < 4; round++) {
            Bench.lay(bench, 0, round);
            boolean due = round == 1;
            Check.due("needs in round " + round, due, () -> bench.needs(0, 1));
        }
        bench.comment(0, 0);
        Check.due("the comment's line", 0, () -> bench.placeIn(0, 3));
        bench.resolve(0);
        bench.land(0);
        Check.due("what lands", "3", () -> Bench.mainText(bench));
    }

    @Holds(at = "Terms", sentence = "A change can have to land after other changes.")
    static void aChangeLandsAfterAllOthers() {
        ReviewBench bench = Bench.withChanges(4);
        for (int change = 0; change < 4; change++) {
            bench.lay(change);
        }
        for (int other = 1; other < 4; other++) {
            bench.landAfter(0, other);
        }
        for (int other = 3; other > 0; other--) {
            Check.due("with some left", 'd', () -> bench.reasonAgainst(0));
            bench.land(other);
        }
        Check.noSuchElement("with none left", () -> bench.reasonAgainst(0));
    }

    // ---- scripts

    /** Checks where the lines of the first text are kept in the second one, in both ways. */
    private static void keeps(int[] first, int[] second, int... places) {
        ReviewBench bench = Bench.withRound(first);
        int kept = 0;
        for (int line = 0; line < first.length; line++) {
            bench.comment(0, line);
        }
        Bench.lay(bench, 0, second);
        for (int line = 0; line < first.length; line++) {
            int comment = line;
            Object due = places[line] == GONE ? "throws.NoSuchElementException" : (Object) places[line];
            kept += places[line] == GONE ? 0 : 1;
            Check.due("placeIn of line " + line, due, () -> bench.placeIn(comment, 1));
            Check.due("placeByComparing of line " + line, due, () -> bench.placeByComparing(comment, 1));
        }
        int edits = first.length + second.length - 2 * kept;
        Check.due("edits", edits, () -> bench.edits(0, 0, 1));
        Check.due("editsByWays", edits, () -> bench.editsByWays(0, 0, 1));
    }

    @Holds(at = "Terms", sentence = "Scripts between texts and the places of comments are found in two ways each.")
    static void bothWaysFindTheSame() {
        keeps(new int[] {1, 2, 3, 1, 2, 2, 1}, new int[] {3, 2, 1, 2, 1, 3}, GONE, GONE, 0, GONE, 1, 3, 4);
        keeps(new int[] {}, new int[] {});
    }

    @Holds(at = "Terms", sentence = "The script from one text to another one is a row of edits:"
        + " a line of both is kept, a line of the first one is removed, or a line of the second one is added,"
        + " so that the first text becomes the second one, with as few removed and added lines as possible.")
    static void scriptsHaveAsFewEditsAsPossible() {
        keeps(new int[] {1, 2, 3, 4}, new int[] {4, 1, 2, 3}, 1, 2, 3, GONE);
        keeps(new int[] {1, 2, 3, 4}, new int[] {2, 3, 4, 1}, GONE, 0, 1, 2);
        keeps(new int[] {5, 1, 2, 5}, new int[] {1, 5, 2}, GONE, 0, GONE, 1);
        keeps(new int[] {1, 9, 2, 9, 3}, new int[] {8, 1, 8, 2, 8, 3}, 1, GONE, 3, GONE, 5);
    }

    @Holds(at = "Terms", sentence = "The script from one text to another one is a row of edits:"
        + " a line of both is kept, a line of the first one is removed, or a line of the second one is added,"
        + " so that the first text becomes the second one, with as few removed and added lines as possible.")
    static void scriptsOfEmptyFullAndLikeTexts() {
        int[] none = {};
        int[] full = Bench.linesFrom(10, 12);
        int[] gone = new int[12];
        int[] same = new int[12];
        for (int line = 0; line < 12; line++) {
            gone[line] = GONE;
            same[line] = line;
        }
        keeps(none, full);
        keeps(full, none, gone);
        keeps(full, full, same);
        keeps(full, Bench.linesFrom(50, 12), gone);
    }

    @Holds(at = "Terms", sentence = "It is found from the first lines on:"
        + " if the next lines of both are the same, they are kept;")
    static void theFirstOfTheSameLinesIsKept() {
        keeps(new int[] {1}, new int[] {1, 1}, 0);
        keeps(new int[] {1, 1}, new int[] {1}, 0, GONE);
        keeps(new int[] {1, 2, 1}, new int[] {1}, 0, GONE, GONE);
        keeps(new int[] {1, 1, 2}, new int[] {1, 2, 1}, 0, GONE, 1);
        keeps(new int[] {3, 3, 3, 3}, new int[] {3, 3}, 0, 1, GONE, GONE);
    }

    @Holds(at = "Terms", sentence = "otherwise, the next line of the first text is removed"
        + " if the rest can then be done with as few edits as if the next line of the second text were added,"
        + " or with fewer;")
    static void aLineIsRemovedWhenBothWaysAreAsShort() {
        keeps(new int[] {1, 2}, new int[] {2, 1}, GONE, 0);
        keeps(new int[] {1, 2, 3}, new int[] {3, 1}, GONE, GONE, 0);
        keeps(new int[] {0, 1, 2, 0}, new int[] {0, 2, 1, 0}, 0, GONE, 1, 3);
        keeps(new int[] {1, 2}, new int[] {3, 2, 1}, GONE, 1);
    }

    @Holds(at = "Terms", sentence = "otherwise, the next line of the first text is removed"
        + " if the rest can then be done with as few edits as if the next line of the second text were added,"
        + " or with fewer;")
    static void aLineIsRemovedWhenThatIsShorter() {
        keeps(new int[] {9, 1, 2}, new int[] {1, 2, 9}, GONE, 0, 1);
        keeps(new int[] {9, 8, 1, 2, 3}, new int[] {1, 2, 3, 9, 8}, GONE, GONE, 0, 1, 2);
        keeps(new int[] {9}, new int[] {}, GONE);
    }

    @Holds(at = "Terms", sentence = "otherwise, that line is added.")
    static void aLineIsAddedWhenThatIsShorter() {
        keeps(new int[] {1, 2}, new int[] {9, 1, 2}, 1, 2);
        keeps(new int[] {1, 2, 9}, new int[] {9, 1, 2}, 1, 2, GONE);
        keeps(new int[] {1, 2, 3}, new int[] {3, 3, 1, 2}, 2, 3, GONE);
        keeps(new int[] {}, new int[] {9});
    }

    // ---- owners

    @Holds(at = "Terms",
        sentence = "At most 6 ranges of contents are given to users, each from a low to a high content.")
    static void sixRangesAreKept() {
        ReviewBench bench = new ReviewBench();
        for (int range = 0; range < 6; range++) {
            int low = 10 * range;
            int user = range % 5;
            Check.due("giveRange", range + 1, () -> bench.giveRange(low, low + 3, user));
        }
        Check.illegalState("a seventh", () -> bench.giveRange(90, 99, 1));
        for (int range = 0; range < 6; range++) {
            int low = 10 * range;
            Check.due("the owner of the low one", range % 5, () -> bench.ownerOf(low));
            Check.due("the owner of the high one", range % 5, () -> bench.ownerOf(low + 3));
            Check.noSuchElement("behind the high one", () -> bench.ownerOf(low + 4));
        }
        Check.noSuchElement("the seventh was not given", () -> bench.ownerOf(90));
    }

    @Holds(at = "Terms", sentence = "The owner of a line is the user of the range"
        + " that was given last among those with its content; some lines have none.")
    static void theOwnerIsByTheRangeGivenLast() {
        ReviewBench bench = new ReviewBench();
        bench.giveRange(10, 30, 1);
        bench.giveRange(20, 40, 2);
        bench.giveRange(20, 20, 3);
        bench.giveRange(50, 60, 0);
        Check.noSuchElement("ahead of all", () -> bench.ownerOf(9));
        Check.due("by the first alone", 1, () -> bench.ownerOf(19));
        Check.due("by the third of three", 3, () -> bench.ownerOf(20));
        Check.due("by the second of two", 2, () -> bench.ownerOf(30));
        Check.due("by the second alone", 2, () -> bench.ownerOf(40));
        Check.noSuchElement("between two", () -> bench.ownerOf(45));
        bench.giveRange(10, 30, 1);
        Check.due("by the first, given again", 1, () -> bench.ownerOf(20));
        Check.due("and the second behind it", 2, () -> bench.ownerOf(31));
    }

    @Holds(at = "Terms", sentence = "Owners are always those by the ranges as they are now.")
    static void ownersAreThoseByTheRangesNow() {
        ReviewBench bench = Bench.withRound(1, 2);
        bench.approve(0, 3);
        Bench.lay(bench, 0, 2, 5);
        Check.due("no owner: not needed", false, () -> bench.needs(0, 3));
        Check.due("no owner: not stale", false, () -> bench.isStale(0, 3));
        Check.noSuchElement("no owner: no reason", () -> bench.reasonAgainst(0));
        bench.giveRange(5, 5, 3);
        Check.due("needed now", true, () -> bench.needs(0, 3));
        Check.due("stale now", true, () -> bench.isStale(0, 3));
        Check.due("a reason now", 'a', () -> bench.reasonAgainst(0));
        Check.due("missing now", 3, () -> bench.missingUser(0));
        bench.giveRange(0, 99, 0);
        Check.due("another's now", false, () -> bench.needs(0, 3));
        Check.due("not stale now", false, () -> bench.isStale(0, 3));
        Check.noSuchElement("no reason now", () -> bench.reasonAgainst(0));
    }

    @Holds(at = "Terms", sentence = "A change touches the owners of the lines that the script"
        + " from its base to its present round removes or adds.")
    static void ownersOfRemovedAndOfAddedLinesAreTouched() {
        ReviewBench bench = Bench.withMain(1, 2, 3);
        for (int user = 1; user < 5; user++) {
            bench.giveRange(user, user, user);
        }
        bench.open(0);
        Bench.lay(bench, 1, 2, 4);
        Check.due("the first line is removed", true, () -> bench.needs(1, 1));
        Check.due("a line is kept", false, () -> bench.needs(1, 2));
        Check.due("the last line is removed", true, () -> bench.needs(1, 3));
        Check.due("a line is added", true, () -> bench.needs(1, 4));
        Bench.lay(bench, 1, 2, 1, 3);
        Check.due("a line is removed and added", true, () -> bench.needs(1, 1));
        Check.due("a line is kept elsewhere", false, () -> bench.needs(1, 2));
        Check.due("a line that was removed in the round before alone", false, () -> bench.needs(1, 3));
        Check.due("a line that was added in the round before alone", false, () -> bench.needs(1, 4));
        Bench.lay(bench, 1, 1, 2, 3);
        for (int user = 1; user < 5; user++) {
            int asked = user;
            Check.due("nothing is removed or added", false, () -> bench.needs(1, asked));
        }
    }

    @Holds(at = "Terms", sentence = "A change touches the owners of the lines that the script"
        + " from its base to its present round removes or adds.")
    static void theScriptTellsWhichOfTwoIsTouched() {
        ReviewBench bench = Bench.withMain(1, 2);
        bench.giveRange(1, 1, 1);
        bench.giveRange(2, 2, 2);
        bench.open(0);
        Bench.lay(bench, 1, 2, 1);
        Check.due("1 is removed and added", true, () -> bench.needs(1, 1));
        Check.due("2 is kept", false, () -> bench.needs(1, 2));
    }

    @Holds(at = "Terms", sentence = "A change touches the owners of the lines that the script"
        + " from its base to its present round removes or adds.")
    static void ownersOfAllOfTheMostLinesAreTouched() {
        for (int line = 0; line < 12; line++) {
            ReviewBench bench = Bench.withMain(Bench.linesFrom(10, 12));
            bench.giveRange(10 + line, 10 + line, 1);
            bench.giveRange(30 + line, 30 + line, 2);
            bench.open(0);
            Bench.lay(bench, 1, Bench.linesFrom(30, 12));
            Check.due("line " + line + " is removed", true, () -> bench.needs(1, 1));
            Check.due("line " + line + " is added", true, () -> bench.needs(1, 2));
        }
    }

    @Holds(at = "Terms",
        sentence = "It needs the approvals of all owners that it touches, but for its author.")
    static void allOwnersButTheAuthorAreNeeded() {
        for (int author = 0; author < 5; author++) {
            ReviewBench bench = new ReviewBench();
            for (int user = 0; user < 5; user++) {
                bench.giveRange(user, user, user);
            }
            bench.open(author);
            Bench.lay(bench, 0, 0, 1, 2, 3, 4);
            for (int user = 0; user < 5; user++) {
                int asked = user;
                boolean due = user != author;
                Check.due("author " + author + " needs " + user, due, () -> bench.needs(0, asked));
            }
        }
    }

    // ---- approvals

    @Holds(at = "Terms", sentence = "A user approves the present round of a change;"
        + " an approval given before by this user for this change is replaced.")
    static void anApprovalIsReplaced() {
        ReviewBench bench = Bench.withRound(1);
        bench.giveRange(0, 9, 1);
        bench.approve(0, 1);
        Bench.lay(bench, 0, 2);
        Check.due("the old one is stale", true, () -> bench.isStale(0, 1));
        Check.due("one that is not stale", 1, () -> bench.approve(0, 1));
        Check.due("the new one is not stale", false, () -> bench.isStale(0, 1));
        Check.due("none is left when it is taken back", 0, () -> bench.withdraw(0, 1));
        Check.due("not even the old one", false, () -> bench.hasApproved(0, 1));
    }

    @Holds(at = "Terms", sentence = "A user approves the present round of a change;"
        + " an approval given before by this user for this change is replaced.")
    static void approvalsOfOthersAreNotReplaced() {
        ReviewBench bench = Bench.withRound(1);
        bench.open(0);
        bench.lay(1);
        bench.approve(0, 1);
        Check.due("another user's", 2, () -> bench.approve(0, 2));
        bench.approve(1, 1);
        Check.due("this user's for another change", true, () -> bench.hasApproved(0, 1));
        bench.withdraw(1, 1);
        Check.due("this user's for another change, still", true, () -> bench.hasApproved(0, 1));
    }

    @Holds(at = "Terms", sentence = "It is stale if, between the round for which it was given and the present one,"
        + " the script from some round to the next one removes or adds a line of this user.")
    static void anApprovalOfThePresentRoundIsNotStale() {
        ReviewBench bench = Bench.withRound(1);
        bench.giveRange(0, 9, 1);
        Bench.lay(bench, 0, 2);
        bench.approve(0, 1);
        Check.due("what changed ahead of it does not count", false, () -> bench.isStale(0, 1));
        Bench.lay(bench, 0, 2);
        Check.due("nothing has changed", false, () -> bench.isStale(0, 1));
    }

    @Holds(at = "Terms", sentence = "It is stale if, between the round for which it was given and the present one,"
        + " the script from some round to the next one removes or adds a line of this user.")
    static void anApprovalStaysStaleWhenTheLinesComeBack() {
        ReviewBench bench = Bench.withRound(1, 50);
        bench.giveRange(0, 9, 1);
        bench.approve(0, 1);
        Bench.lay(bench, 0, 50);
        Bench.lay(bench, 0, 1, 50);
        Check.due("the rounds are the same", 0, () -> bench.edits(0, 0, 2));
        Check.due("it is stale", true, () -> bench.isStale(0, 1));
        Bench.lay(bench, 0, 1, 50, 51);
        Check.due("it stays stale", true, () -> bench.isStale(0, 1));
    }

    @Holds(at = "Terms", sentence = "It is stale if, between the round for which it was given and the present one,"
        + " the script from some round to the next one removes or adds a line of this user.")
    static void anApprovalIsNotStaleByLinesOfOthers() {
        ReviewBench bench = Bench.withRound(1, 11, 50);
        bench.giveRange(0, 9, 1);
        bench.giveRange(10, 19, 2);
        bench.approve(0, 1);
        bench.approve(0, 2);
        Bench.lay(bench, 0, 1, 50, 51);
        Check.due("one that owns a removed line", true, () -> bench.isStale(0, 2));
        Check.due("one that owns a kept line", false, () -> bench.isStale(0, 1));
    }

    // ---- comments

    @Holds(at = "Terms",
        sentence = "At most 12 comments, numbered from 0, are made on a line of the present round of a change.")
    static void twelveCommentsInAll() {
        ReviewBench bench = Bench.withChanges(4);
        for (int change = 0; change < 4; change++) {
            Bench.lay(bench, change, 1);
        }
        for (int comment = 0; comment < 12; comment++) {
            int change = comment % 4;
            Check.due("comment", comment, () -> bench.comment(change, 0));
        }
        for (int change = 0; change < 4; change++) {
            int next = change;
            Check.illegalState("a thirteenth on change " + change, () -> bench.comment(next, 0));
            Check.due("comments of change " + change, 3, () -> bench.openComments(next));
        }
        Check.outOfBounds("comment 12", () -> bench.isOpen(12));
    }

    @Holds(at = "Terms", sentence = "In the next round, a comment is at the line as which its line is kept"
        + " by the script from the one round to the next;")
    static void aCommentFollowsItsLineRoundByRound() {
        ReviewBench bench = Bench.withRound(1, 2);
        bench.comment(0, 0);
        bench.comment(0, 1);
        Bench.lay(bench, 0, 5, 2, 1);
        Bench.lay(bench, 0, 1, 2, 1);
        Check.due("the second line", 1, () -> bench.placeIn(1, 1));
        Check.due("the second line by comparing", 1, () -> bench.placeByComparing(1, 1));
        Check.due("the second line, in the third round", 1, () -> bench.placeIn(1, 2));
        Check.due("the second line, in the third round, by comparing", 1, () -> bench.placeByComparing(1, 2));
        Check.noSuchElement("the first line is gone on the way", () -> bench.placeIn(0, 2));
        Check.noSuchElement("the first line is gone by comparing", () -> bench.placeByComparing(0, 2));
        Check.due("though the script over both would keep it", 1, () -> bench.edits(0, 0, 2));
    }

    @Holds(at = "Terms", sentence = "if its line is removed, it is gone in that round and in all later ones.")
    static void aCommentStaysGone() {
        ReviewBench bench = Bench.withRound(1, 2);
        bench.comment(0, 0);
        Bench.lay(bench, 0, 2);
        Bench.lay(bench, 0, 1, 2);
        Bench.lay(bench, 0, 1, 2);
        for (int round = 1; round < 4; round++) {
            int asked = round;
            Check.noSuchElement("placeIn round " + round, () -> bench.placeIn(0, asked));
            Check.noSuchElement("placeByComparing in round " + round, () -> bench.placeByComparing(0, asked));
        }
        Check.due("it was there", 0, () -> bench.placeIn(0, 0));
        Check.due("it was there, by comparing", 0, () -> bench.placeByComparing(0, 0));
    }

    @Holds(at = "Terms", sentence = "A comment is open until it is resolved.")
    static void aCommentStaysOpenUntilItIsResolved() {
        ReviewBench bench = Bench.withRound(1);
        bench.comment(0, 0);
        Check.due("made", true, () -> bench.isOpen(0));
        bench.lay(0);
        Check.due("gone", true, () -> bench.isOpen(0));
        bench.resolve(0);
        Check.due("resolved", false, () -> bench.isOpen(0));
        Bench.lay(bench, 0, 1);
        Check.due("and for good", false, () -> bench.isOpen(0));
    }

    // ---- exceptions

    @Holds(at = "Terms", sentence = "A method that throws an exception changes nothing.")
    static void allRefusedCallsInARowChangeNothing() {
        ReviewBench refused = withAllSorts();
        Check.illegalArgument("giveRange", () -> refused.giveRange(0, 100, 2));
        Check.outOfBounds("open", () -> refused.open(5));
        Check.illegalArgument("addLine", () -> refused.addLine(1, 100));
        Check.illegalState("addLine when it has landed", () -> refused.addLine(0, 1));
        Check.illegalState("lay when it has landed", () -> refused.lay(0));
        Check.illegalState("landAfter when it has landed", () -> refused.landAfter(0, 1));
        Check.unsupported("landAfter in a ring", () -> refused.landAfter(2, 1));
        Check.illegalArgument("setPriority", () -> refused.setPriority(1, 10));
        Check.noSuchElement("comment", () -> refused.comment(1, 2));
        Check.outOfBounds("resolve", () -> refused.resolve(1));
        Check.illegalState("approve by the author", () -> refused.approve(1, 0));
        Check.noSuchElement("approve without a round", () -> refused.approve(2, 1));
        Check.noSuchElement("withdraw", () -> refused.withdraw(1, 2));
        Check.unsupported("land", () -> refused.land(1));
        Check.unsupported("land again", () -> refused.land(0));
        String due = Bench.goneOn(withAllSorts());
        Check.due("a bench after all these", due, () -> Bench.goneOn(refused));
    }

    @Holds(at = "Terms", sentence = "A method that throws an exception changes nothing.")
    static void refusedCallsCanBeMadeLater() {
        ReviewBench bench = Bench.withRound(1);
        bench.comment(0, 0);
        Check.unsupported("land", () -> bench.land(0));
        bench.resolve(0);
        Check.due("land then", 1, () -> bench.land(0));
        Check.outOfBounds("lay of a change that is not there", () -> bench.lay(1));
        Check.due("open", 1, () -> bench.open(0));
        Check.due("lay then", 0, () -> bench.lay(1));
        Check.noSuchElement("comment on an empty round", () -> bench.comment(1, 0));
        Bench.lay(bench, 1, 2);
        Check.due("comment then", 1, () -> bench.comment(1, 0));
    }
}
