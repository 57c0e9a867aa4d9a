/** Refused calls: which exception is thrown, and that nothing has changed behind it. */
final class Refused {
    interface OnOne {
        double of(VernierDrawers x);
    }

    interface ByNumber {
        double of(VernierDrawers x, int number);
    }

    private Refused() {
    }

    static void argument(String what, Made made, OnOne call) {
        by(Check.ARGUMENT, what, made, call);
    }

    static void state(String what, Made made, OnOne call) {
        by(Check.STATE, what, made, call);
    }

    static void element(String what, Made made, OnOne call) {
        by(Check.ELEMENT, what, made, call);
    }

    /** Each of these numbers, and the far ones, are refused as arguments. */
    static void numbers(String what, Made made, ByNumber call, int... numbers) {
        for (int number : numbers) {
            argument(what + " " + number, made, x -> call.of(x, number));
        }
        for (int far : new int[] {Integer.MIN_VALUE, Integer.MAX_VALUE, -65536, 65536}) {
            argument(what + " " + far, made, x -> call.of(x, far));
        }
    }

    /** An object on which the call was tried is compared with one on which it was not. */
    private static void by(Class<?> due, String what, Made made, OnOne call) {
        VernierDrawers x = made.make();
        Check.refuses(what, due, () -> call.of(x));
        Check.same(what + ": what is seen", Seen.all(made.make()), Seen.all(x));
        Check.same(what + ": the history", Seen.history(made.make()), Seen.history(tried(made, call)));
        Check.same(what + ": what is hidden", Seen.hidden(made.make()), Seen.hidden(tried(made, call)));
    }

    private static VernierDrawers tried(Made made, OnOne call) {
        VernierDrawers x = made.make();
        try {
            call.of(x);
        } catch (RuntimeException e) {
            return x;
        }
        return x;
    }
}
