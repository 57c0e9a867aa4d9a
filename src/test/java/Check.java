import java.util.NoSuchElementException;

/** What the tests share: each wrong answer is printed, and ends the test with 1. */
final class Check {
    interface Call {
        double run();
    }

    static final Class<?> ARGUMENT = IllegalArgumentException.class;
    static final Class<?> STATE = IllegalStateException.class;
    static final Class<?> ELEMENT = NoSuchElementException.class;

    private static int checks = 0;
    private static int wrong = 0;
    private static String about = "";

    private Check() {
    }

    static double of(boolean answer) {
        return answer ? 1 : 0;
    }

    static int count() {
        return checks;
    }

    /** What is told from now on is told to be about this. */
    static void about(String what) {
        about = what;
    }

    static void same(String what, String due, String got) {
        checks++;
        if (!got.equals(due)) {
            tell(what + " is" + System.lineSeparator() + got + System.lineSeparator() + "due is"
                    + System.lineSeparator() + due);
        }
    }

    static void is(String what, double due, Call call) {
        checks++;
        try {
            double got = call.run();
            if (got != due) {
                tell(what + " answered " + got + ", due is " + due);
            }
        } catch (RuntimeException e) {
            tell(what + " threw " + e + ", due is " + due);
        }
    }

    static void refuses(String what, Class<?> due, Call call) {
        checks++;
        try {
            double got = call.run();
            tell(what + " answered " + got + ", due is " + due.getSimpleName());
        } catch (RuntimeException e) {
            if (e.getClass() != due) {
                tell(what + " threw " + e + ", due is " + due.getSimpleName());
            }
        }
    }

    static void tell(String what) {
        wrong++;
        System.out.println(about + what);
    }

    static void type(VernierDrawers x, String text) {
        for (int i = 0; i < text.length(); i++) {
            x.type(text.charAt(i));
        }
    }

    /** Puts this text in place of the one before. */
    static void write(VernierDrawers x, String text) {
        x.clearText();
        type(x, text);
    }

    static void playTimes(VernierDrawers x, int times) {
        for (int i = 0; i < times; i++) {
            x.play();
        }
    }

    static void end() {
        if (wrong > 0) {
            System.out.println(wrong + " of " + checks + " answers are not as due");
            System.exit(1);
        }
        System.out.println(checks + " answers are as due");
    }
}
