/** Steps that many tests take. */
final class Bench {
    private static final int[] CONTENTS_ASKED = {0, 1, 9, 10, 19, 20, 29, 30, 49, 50, 51, 59, 60, 90, 98, 99};

    private Bench() {
    }

    /** Lays these lines as the next round of a change. */
    static int lay(ReviewBench bench, int change, int... contents) {
        draft(bench, change, contents);
        return bench.lay(change);
    }

    static void draft(ReviewBench bench, int change, int... contents) {
        for (int content : contents) {
            bench.addLine(change, content);
        }
    }

    /** So many lines, one content up from the other. */
    static int[] linesFrom(int content, int count) {
        int[] contents = new int[count];
        for (int line = 0; line < count; line++) {
            contents[line] = content + line;
        }
        return contents;
    }

    /** A bench with so many changes, all of user 0. */
    static ReviewBench withChanges(int count) {
        ReviewBench bench = new ReviewBench();
        for (int change = 0; change < count; change++) {
            bench.open(0);
        }
        return bench;
    }

    /** A bench whose change 0, of user 0, has these lines as its round 0. */
    static ReviewBench withRound(int... contents) {
        ReviewBench bench = withChanges(1);
        lay(bench, 0, contents);
        return bench;
    }

    /** A bench with this main text, which its change 0, of user 0, has brought in. */
    static ReviewBench withMain(int... contents) {
        ReviewBench bench = withRound(contents);
        bench.land(0);
        return bench;
    }

    /** A bench whose change 2 has this round, from a base that is not the main text any more. */
    static ReviewBench withRoundBeside(int[] base, int[] main, int[] round) {
        ReviewBench bench = withMain(base);
        bench.open(0);
        bench.open(0);
        lay(bench, 1, main);
        bench.land(1);
        lay(bench, 2, round);
        return bench;
    }

    static String mainText(ReviewBench bench) {
        StringBuilder text = new StringBuilder();
        int lines = bench.mainLines();
        for (int line = 0; line < lines; line++) {
            text.append(bench.mainLine(line)).append(' ');
        }
        return text.toString().trim();
    }

    static String round(ReviewBench bench, int change, int round) {
        StringBuilder text = new StringBuilder();
        int lines = bench.lines(change, round);
        for (int line = 0; line < lines; line++) {
            text.append(bench.lineAt(change, round, line)).append(' ');
        }
        return text.toString().trim();
    }

    static String order(ReviewBench bench) {
        StringBuilder order = new StringBuilder();
        for (int position = 0; position < 5; position++) {
            int asked = position;
            String landed = Check.outcome(() -> bench.landedAt(asked));
            if (isRefused(landed)) {
                break;
            }
            order.append(landed).append(' ');
        }
        return order.toString().trim();
    }

    private static boolean isRefused(String outcome) {
        return outcome.startsWith("throws");
    }

    /** What the questions answer, to see that a call changes nothing. */
    static String state(ReviewBench bench) {
        StringBuilder state = new StringBuilder(mainText(bench)).append("\nlanded ").append(order(bench));
        state.append("\nowners");
        for (int content : CONTENTS_ASKED) {
            state.append(' ').append(Check.outcome(() -> bench.ownerOf(content)));
        }
        for (int change = 0; change < 4; change++) {
            tellChange(state, bench, change);
        }
        boolean isThere = true;
        for (int comment = 0; comment < 12 && isThere; comment++) {
            isThere = tellComment(state, bench, comment);
        }
        return state.toString();
    }

    private static void tellChange(StringBuilder state, ReviewBench bench, int change) {
        String rounds = Check.outcome(() -> bench.rounds(change));
        state.append("\nchange ").append(change).append(' ').append(rounds);
        if (isRefused(rounds)) {
            return;
        }
        state.append(' ').append(Check.outcome(() -> bench.reasonAgainst(change)));
        state.append(' ').append(bench.openComments(change));
        for (int round = 0; round < Integer.parseInt(rounds); round++) {
            state.append("\nround ").append(round(bench, change, round));
        }
        for (int next = 0; next < 5; next++) {
            int user = next;
            state.append("\nuser ").append(bench.needs(change, user));
            state.append(' ').append(Check.outcome(() -> bench.isStale(change, user)));
        }
    }

    private static boolean tellComment(StringBuilder state, ReviewBench bench, int comment) {
        String open = Check.outcome(() -> bench.isOpen(comment));
        state.append("\ncomment ").append(open);
        for (int next = 0; next < 4 && !isRefused(open); next++) {
            int round = next;
            state.append(' ').append(Check.outcome(() -> bench.placeIn(comment, round)));
        }
        return !isRefused(open);
    }

    /** The state, and how a bench goes on. */
    static String goneOn(ReviewBench bench) {
        return state(bench) + called(bench);
    }

    /** How a bench goes on: this shows drafts, priorities, authors and orders, for which no question asks. */
    static String called(ReviewBench bench) {
        StringBuilder told = new StringBuilder();
        told.append("\nrange ").append(Check.outcome(() -> bench.giveRange(90, 90, 3)));
        told.append("\nopen ").append(Check.outcome(() -> bench.open(3)));
        for (int next = 0; next < 4; next++) {
            int change = next;
            told.append("\nchange ").append(Check.outcome(() -> bench.setPriority(change, 1)));
            told.append(' ').append(Check.outcome(() -> bench.addLine(change, 90)));
            told.append(' ').append(Check.outcome(() -> bench.lay(change)));
            told.append(' ').append(Check.outcome(() -> bench.comment(change, 0)));
            for (int last = 0; last < 4; last++) {
                int other = last;
                told.append(' ').append(Check.outcome(() -> bench.landAfter(change, other)));
            }
            for (int last = 0; last < 5; last++) {
                int user = last;
                told.append(' ').append(Check.outcome(() -> bench.approve(change, user)));
            }
            told.append("\npresent round ").append(Check.outcome(() -> round(bench, change, bench.rounds(change) - 1)));
        }
        for (int next = 0; next < 12; next++) {
            int comment = next;
            told.append("\nresolve ").append(Check.outcome(() -> bench.resolve(comment)));
        }
        told.append("\nlandAll ").append(bench.landAll()).append(", in the order ").append(order(bench));
        return told.append("\nmain ").append(mainText(bench)).toString();
    }
}
