/** A refused call throws the exception that is due and changes nothing: a bench made alike goes on alike. */
final class Refusal {
    interface Setup {
        ReviewBench made();
    }

    interface Call {
        Object on(ReviewBench bench);
    }

    private Refusal() {
    }

    static void outOfBounds(String what, Setup setup, Call call) {
        due("throws.IndexOutOfBoundsException", what, setup, call);
    }

    static void illegalArgument(String what, Setup setup, Call call) {
        due("throws.IllegalArgumentException", what, setup, call);
    }

    static void illegalState(String what, Setup setup, Call call) {
        due("throws.IllegalStateException", what, setup, call);
    }

    static void noSuchElement(String what, Setup setup, Call call) {
        due("throws.NoSuchElementException", what, setup, call);
    }

    static void unsupported(String what, Setup setup, Call call) {
        due("throws.UnsupportedOperationException", what, setup, call);
    }

    private static void due(String exception, String what, Setup setup, Call call) {
        ReviewBench refused = setup.made();
        Check.due(what, exception, () -> call.on(refused));
        String due = Bench.goneOn(setup.made());
        Check.due("a bench after " + what, due, () -> Bench.goneOn(refused));
    }
}
