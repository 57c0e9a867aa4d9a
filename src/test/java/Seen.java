import java.lang.reflect.InvocationTargetException;
import java.lang.reflect.Method;
import java.util.Arrays;

/** What can be seen of an object, as a text, so that two of them can be compared. */
final class Seen {
    private static final String[] ALONE = {"tools", "warmth", "blocks", "stackable", "types", "onBench", "toFile",
        "bestTool", "whyNotPass", "days", "brought", "broughtByPlaces", "good", "thrownAway", "unseen", "doubts",
        "goodShare"};
    private static final String[] OF_TEXTS = {"states", "faultPosition", "faultReason", "faultCause"};
    private static final String[] OF_TOOLS = {"kindOf", "stepOf", "usesOf", "wearOf", "knownError", "isDue",
        "usesLeft", "whyNotJudge", "wouldJudge"};
    private static final String[] OF_BLOCKS = {"blockLength", "blockError"};
    private static final String[] OF_TYPES = {"lengthOf", "widthOf", "mannerOf", "recordOf", "badOf",
        "goodUntilChange", "signalsOf", "middleOf", "middleByTaking", "spreadOf", "meanOf"};
    private static final String[] OF_PLACES = {"typeAt", "wasDoubted"};
    private static final String[] BRIEFLY = {"tools", "blocks", "types", "onBench", "toFile", "warmth", "days",
        "brought", "good", "thrownAway", "unseen", "doubts"};

    private final VernierDrawers x;
    private final StringBuilder seen = new StringBuilder();

    private Seen(VernierDrawers x) {
        this.x = x;
    }

    /** What each look answers, but for those at the history and the text. */
    static String things(VernierDrawers x) {
        Seen s = new Seen(x);
        s.lookAtThings();
        return s.seen.toString();
    }

    /** What each look answers. */
    static String all(VernierDrawers x) {
        Seen s = new Seen(x);
        s.lookAtThings();
        s.each(OF_TEXTS);
        return s.seen.toString();
    }

    /** What the states of the history are; they are undone by that. */
    static String history(VernierDrawers x) {
        Seen s = new Seen(x);
        for (int i = 0; i < 5; i++) {
            s.each(BRIEFLY);
            for (int tool = 0; tool < x.tools(); tool++) {
                s.answer("usesOf", tool);
            }
            s.answer("undo");
        }
        return s.seen.toString();
    }

    /** What no look tells, told by what calls answer that change it. */
    static String hidden(VernierDrawers x) {
        Seen s = new Seen(x);
        s.answer("clearText");
        s.answer("setTolerance", 99);
        s.judgeSome();
        for (int tool = 0; tool < x.tools(); tool++) {
            for (int i = 0; i < 7; i++) {
                s.answer("measure", tool, 0, 100);
            }
            s.answer("wearOf", tool);
        }
        for (int block = 0; block < x.blocks(); block++) {
            for (int i = 0; i < 10; i++) {
                s.answer("calibrate", 0, x.blockLength(block));
            }
            s.answer("blockError", block);
        }
        for (int i = 0; i < 9; i++) {
            s.answer("endDay");
        }
        s.answer("file", 1);
        s.answer("file", 1);
        s.answer("goBack");
        s.each(BRIEFLY);
        s.answer("setTolerance", 99);
        return s.seen.toString();
    }

    /** The warmth tells the materials of pieces. */
    private void judgeSome() {
        answer("setWarmth", 50);
        for (int i = 0; i < 4; i++) {
            answer("judge", 0);
        }
        for (int type = 0; type < x.types(); type++) {
            each(new String[] {"spreadOf", "meanOf"}, type);
        }
    }

    private void lookAtThings() {
        each(ALONE);
        for (int tool = 0; tool < x.tools(); tool++) {
            each(OF_TOOLS, tool);
            answer("readingFor", tool, 2, 2000);
        }
        for (int block = 0; block < x.blocks(); block++) {
            each(OF_BLOCKS, block);
        }
        for (int type = 0; type < x.types(); type++) {
            each(OF_TYPES, type);
            for (int place = 0; place < x.charted(type); place++) {
                answer("chartedAt", type, place);
            }
        }
        for (int place = 0; place < x.onBench(); place++) {
            each(OF_PLACES, place);
        }
    }

    private void each(String[] names, Integer... arguments) {
        for (String name : names) {
            answer(name, arguments);
        }
    }

    private void answer(String name, Integer... arguments) {
        Class<?>[] types = new Class<?>[arguments.length];
        Arrays.fill(types, int.class);
        String answer;
        try {
            Method method = VernierDrawers.class.getMethod(name, types);
            answer = String.valueOf(method.invoke(x, (Object[]) arguments));
        } catch (InvocationTargetException e) {
            answer = e.getCause().getClass().getSimpleName();
        } catch (ReflectiveOperationException e) {
            throw new IllegalStateException(name, e);
        }
        seen.append(name).append(Arrays.toString(arguments)).append(' ').append(answer).append(' ');
    }
}
