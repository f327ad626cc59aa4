/** What the tests share: they count the answers that are not as due, and end with exit code 1 if there was one. */
final class Check {
    interface Call {
        Object answer();
    }

    private static int right = 0;
    private static int wrong = 0;

    private Check() {
    }

    static void due(String what, Object due, Call call) {
        String got = outcome(call);
        if (got.equals(String.valueOf(due))) {
            right++;
        } else {
            wrong++;
            System.out.println(what + " answered " + got + ", due is " + due);
        }
    }

    /** No such range, change, user or comment. */
    static void outOfBounds(String what, Call call) {
        due(what, "throws.IndexOutOfBoundsException", call);
    }

    static void illegalArgument(String what, Call call) {
        due(what, "throws.IllegalArgumentException", call);
    }

    static void illegalState(String what, Call call) {
        due(what, "throws.IllegalStateException", call);
    }

    static void noSuchElement(String what, Call call) {
        due(what, "throws.NoSuchElementException", call);
    }

    static void unsupported(String what, Call call) {
        due(what, "throws.UnsupportedOperationException", call);
    }

    /** The answer as text; an exception of just this class is told by its name. */
    static String outcome(Call call) {
        try {
            return String.valueOf(call.answer());
        } catch (RuntimeException thrown) {
            return "throws." + thrown.getClass().getSimpleName();
        }
    }

    static int right() {
        return right;
    }

    static int wrong() {
        return wrong;
    }

    static void end(String test) {
        System.out.println(test + ": " + right + " answers as due, " + wrong + " not");
        if (wrong != 0 || right == 0) {
            System.exit(1);
        }
    }
}
