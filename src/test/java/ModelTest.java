import java.lang.reflect.InvocationTargetException;
import java.lang.reflect.Method;
import java.util.ArrayList;
import java.util.Comparator;
import java.util.List;
import java.util.Random;

/** All promises: many runs of 512 calls, each answered as the model answers it. */
public final class ModelTest {
    private static final int RUNS = 400;
    private static final int CALLS = 512;
    // What is called often, by the mood of a run: a bit of all, the bench, blocks and tools, texts.
    private static final String[][] OFTEN = {
        {"bring", "bring", "bring", "judge", "judge", "judge", "file", "passUnseen", "measure", "calibrate",
            "addTool", "addBlock", "addType", "endDay", "undo", "keep", "goBack", "play", "text", "lookAtAll"},
        {"bring", "bring", "bring", "bring", "judge", "judge", "judge", "judge", "judge", "judge", "judge", "judge",
            "file", "passUnseen", "passUnseen", "calibrate", "signalsOf", "whyNotPass", "middleOf", "middleByTaking",
            "goodUntilChange", "whyNotJudge", "wouldJudge", "mannerOf", "chartedAt", "wasDoubted"},
        {"addBlock", "calibrate", "calibrate", "calibrate", "fewestBlocks", "fewestByTrying", "stackFor",
            "trueLength", "stackable", "measure", "readingFor", "readingByLooking", "blockError", "knownError"},
        {"text", "text", "judge", "bring", "play", "play", "undo", "calibrate", "lookAtAll"}};

    private final VernierDrawers program = new VernierDrawers();
    private final Model model = new Model();
    private final Random random;
    private final int run;
    private final int mood;
    // How far away from right most pieces are, and how they drift: else no type is looked at loosely.
    private final int far;
    private final int drift;
    private int calls;
    private final List<String> told = new ArrayList<>();

    private static final List<Method> FACE = face();

    private ModelTest(int run) {
        this.run = run;
        this.mood = run % OFTEN.length;
        this.random = new Random(run);
        this.far = random.nextBoolean() ? 15 : 45;
        this.drift = random.nextInt(5) - 2;
    }

    public static void main(String[] args) throws Exception {
        for (int run = 0; run < RUNS; run++) {
            new ModelTest(run).runAll();
        }
        Check.end();
    }

    private static List<Method> face() {
        List<Method> face = new ArrayList<>();
        for (Method method : VernierDrawers.class.getDeclaredMethods()) {
            if (java.lang.reflect.Modifier.isPublic(method.getModifiers())) {
                face.add(method);
            }
        }
        face.sort(Comparator.comparing(Method::getName));
        return face;
    }

    private void runAll() throws Exception {
        if (run % 8 != 0) {
            furnish();
        }
        String[] often = OFTEN[mood];
        while (calls < CALLS) {
            if (random.nextInt(100) < 90) {
                often(often[random.nextInt(often.length)]);
            } else {
                call(FACE.get(random.nextInt(FACE.size())));
            }
        }
    }

    /** Puts things there at once, so that the run is not spent with refused calls. */
    private void furnish() throws Exception {
        call(named("addTool"), 4, random.nextInt(7) - 3);
        call(named("addTool"), random.nextInt(5), 0);
        call(named("addBlock"), 500, random.nextInt(7) - 3);
        call(named("addBlock"), 200, 0);
        call(named("addType"), 1000, -random.nextInt(40), random.nextInt(40), random.nextInt(3));
        call(named("addType"), 500, -random.nextInt(99), 60, random.nextInt(3));
    }

    private static Method named(String name) {
        for (Method method : FACE) {
            if (method.getName().equals(name)) {
                return method;
            }
        }
        throw new IllegalArgumentException(name);
    }

    private void often(String name) throws Exception {
        if (name.equals("text")) {
            writeText();
        } else if (name.equals("lookAtAll")) {
            lookAtAll();
        } else {
            call(named(name));
        }
    }

    private void lookAtAll() throws Exception {
        for (Method method : FACE) {
            String name = method.getName();
            boolean looks = method.getParameterCount() == 0 && !name.equals("undo") && !name.equals("goBack")
                    && !name.equals("play") && !name.equals("endDay") && !name.equals("passUnseen")
                    && !name.equals("keep") && !name.equals("clearText");
            if (looks) {
                call(method);
            }
        }
    }

    private void writeText() throws Exception {
        StringBuilder text = new StringBuilder();
        int orders = random.nextInt(7);
        for (int i = 0; i < orders; i++) {
            text.append(order());
        }
        if (random.nextInt(3) == 0 && text.length() > 0) {
            spoil(text);
        }
        call(named("clearText"));
        for (int i = 0; i < text.length() && i < 61; i++) {
            call(named("type"), (int) text.charAt(i));
        }
        call(named("faultPosition"));
        call(named("faultReason"));
        call(named("faultCause"));
        for (int i = random.nextInt(4); i >= 0; i--) {
            call(named("play"));
        }
    }

    private void spoil(StringBuilder text) {
        int at = random.nextInt(text.length());
        String signs = "mcpjfud,;0123456789 x~";
        char sign = signs.charAt(random.nextInt(signs.length()));
        switch (random.nextInt(4)) {
            case 0 -> text.setLength(at);
            case 1 -> text.setCharAt(at, sign);
            case 2 -> text.insert(at, sign);
            default -> text.deleteCharAt(at);
        }
    }

    private String order() {
        String first = number(random.nextInt(12) == 0 ? random.nextInt(8) : random.nextInt(2));
        return switch (random.nextInt(12)) {
            case 0 -> "m" + first + "," + number(some(0, 2500)) + ";";
            case 1, 2 -> "c" + first + "," + number(random.nextBoolean() ? 500 : some(1, 1000)) + ";";
            case 3, 4, 5 -> "p" + first + "," + number(some(0, 60)) + ";";
            case 6, 7, 8 -> "j" + first + ";";
            case 9 -> "f" + number(some(1, 60)) + ";";
            case 10 -> "u;";
            default -> "d;";
        };
    }

    private String number(int value) {
        int width = random.nextInt(10) == 0 ? 1 + random.nextInt(6) : 1;
        return String.format("%0" + width + "d", value);
    }

    /** A number of this range, seldom one beside it. */
    private int some(int least, int most) {
        int kind = random.nextInt(40);
        if (kind == 0) {
            return least - 1;
        }
        if (kind == 1) {
            return most + 1;
        }
        if (kind == 2) {
            return random.nextInt();
        }
        if (kind < 6) {
            return random.nextBoolean() ? least : most;
        }
        return least + random.nextInt(most - least + 1);
    }

    /** The number of one of so many, seldom a wrong one. */
    private int ofSome(int many) {
        return many == 0 || random.nextInt(30) == 0 ? some(0, many) : random.nextInt(many);
    }

    private int deviation() {
        if (random.nextInt(12) == 0) {
            return some(-200, 200);
        }
        return drift * (calls / 4 % 8) + random.nextInt(2 * far + 1) - far;
    }

    private int argument(String name, int place, int count) {
        switch (name) {
            case "addTool":
                return place == 0 ? some(0, 4) : some(-30, 30);
            case "addBlock":
                return place == 0 ? (random.nextBoolean() ? 100 * some(1, 50) : some(1, 5000)) : some(-3, 3);
            case "setWarmth":
                return some(-10, 50);
            case "addType":
                return place == 0 ? some(100, random.nextBoolean() ? 2500 : 14000)
                        : place == 1 ? some(-99, 0) : place == 2 ? some(0, 99) : some(0, 2);
            case "bring":
                return place == 0 ? ofSome(model.types()) : deviation();
            case "file":
                return some(1, 99);
            case "setTolerance":
                return some(0, 99);
            case "stretchOf":
                return place == 0 ? some(0, 2) : some(0, 15000);
            case "typeAt":
            case "wasDoubted":
                return some(0, random.nextInt(9));
            case "type":
                return some(32, 126);
            case "chartedAt":
                return place == 0 ? ofSome(model.types()) : some(0, 11);
            default:
                return otherArgument(name, place, count);
        }
    }

    private int otherArgument(String name, int place, int count) {
        boolean ofBlocks = name.equals("fewestBlocks") || name.equals("fewestByTrying") || name.equals("stackFor")
                || name.equals("trueLength") || name.equals("calibrate") && place == 1;
        if (ofBlocks) {
            return random.nextInt(8) == 0 ? some(1, 15000) : ofBlocks();
        }
        if (count == 3 && place == 1) {
            return some(0, 2);
        }
        if (count == 3 && place == 2) {
            return some(0, random.nextBoolean() ? 2500 : 15000);
        }
        boolean ofTools = count == 3 || name.equals("calibrate") || name.equals("kindOf") || name.equals("stepOf")
                || name.equals("usesOf") || name.equals("wearOf") || name.equals("knownError")
                || name.equals("isDue") || name.equals("usesLeft") || name.equals("judge")
                || name.equals("whyNotJudge") || name.equals("wouldJudge");
        return ofSome(ofTools ? model.tools() : name.startsWith("block") ? model.blocks() : model.types());
    }

    /** The sum of some blocks, most often few of them. */
    private int ofBlocks() {
        int sum = 0;
        for (int i = random.nextInt(6); i >= 0 && model.blocks() > 0; i--) {
            sum += model.blockLength(random.nextInt(model.blocks()));
        }
        return Math.min(sum, 15001);
    }

    private void call(Method method, int... given) throws Exception {
        // What later calls answer is free.
        if (calls >= CALLS) {
            return;
        }
        int count = method.getParameterCount();
        Object[] arguments = new Object[count];
        StringBuilder what = new StringBuilder(method.getName());
        for (int i = 0; i < count; i++) {
            arguments[i] = i < given.length ? given[i] : argument(method.getName(), i, count);
            what.append(' ').append(arguments[i]);
        }
        Method other = Model.class.getDeclaredMethod(method.getName(), method.getParameterTypes());
        String got = answer(method, program, arguments);
        String due = answer(other, model, arguments);
        told.add(what + " -> " + due);
        calls++;
        boolean same = got.equals(due);
        Check.is("run " + run + ", call " + calls + ": " + what + " answered " + got + ", due is " + due
                + (same ? "" : " after " + told), 1, () -> Check.of(same));
        if (!same) {
            Check.end();
        }
    }

    private static String answer(Method method, Object object, Object[] arguments) throws Exception {
        try {
            return String.valueOf(method.invoke(object, arguments));
        } catch (InvocationTargetException e) {
            return e.getCause().getClass().getSimpleName();
        }
    }
}
