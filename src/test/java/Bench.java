/** Steps that many tests take. */
final class Bench {
    private Bench() {
    }

    /** Lays these lines as the next round of a change. */
    static int lay(ReviewBench bench, int change, int... contents) {
        for (int content : contents) {
            bench.addLine(change, content);
        }
        return bench.lay(change);
    }

    /** A bench with this main text, which its change 0, of user 0, has brought in. */
    static ReviewBench withMain(int... contents) {
        ReviewBench bench = new ReviewBench();
        bench.open(0);
        lay(bench, 0, contents);
        bench.land(0);
        return bench;
    }

    static String mainText(ReviewBench bench) {
        StringBuilder text = new StringBuilder();
        for (int line = 0; line < bench.mainLines(); line++) {
            text.append(bench.mainLine(line)).append(' ');
        }
        return text.toString().trim();
    }

    static String round(ReviewBench bench, int change, int round) {
        StringBuilder text = new StringBuilder();
        for (int line = 0; line < bench.lines(change, round); line++) {
            text.append(bench.lineAt(change, round, line)).append(' ');
        }
        return text.toString().trim();
    }

    /** All that the questions answer, to see that a call changes nothing. */
    static String state(ReviewBench bench) {
        StringBuilder state = new StringBuilder(mainText(bench));
        for (int content = 0; content < 100; content++) {
            int asked = content;
            state.append(' ').append(Check.outcome(() -> bench.ownerOf(asked)));
        }
        for (int number = 0; number < 4; number++) {
            int change = number;
            state.append("\nlanded ").append(Check.outcome(() -> bench.landedAt(change)));
            if (Check.outcome(() -> bench.rounds(change)).startsWith("throws")) {
                continue;
            }
            state.append("\nchange ").append(Check.outcome(() -> bench.reasonAgainst(change)));
            state.append(' ').append(bench.openComments(change));
            for (int round = 0; round < bench.rounds(change); round++) {
                state.append("\nround ").append(round(bench, change, round));
            }
            for (int next = 0; next < 5; next++) {
                int user = next;
                state.append("\nuser ").append(bench.needs(change, user));
                state.append(' ').append(Check.outcome(() -> bench.isStale(change, user)));
            }
        }
        for (int number = 0; number < 12; number++) {
            int comment = number;
            state.append("\ncomment ").append(Check.outcome(() -> bench.isOpen(comment)));
            for (int next = 0; next < 4; next++) {
                int round = next;
                state.append(' ').append(Check.outcome(() -> bench.placeIn(comment, round)));
            }
        }
        return state.toString();
    }
}
