import java.lang.reflect.InvocationTargetException;
import java.lang.reflect.Method;
import java.util.ArrayList;
import java.util.Comparator;
import java.util.List;
import java.util.Random;

/** All promises: many runs of 512 calls, each answered as the model answers it. */
public final class ModelTest {
    private static final int RUNS = 400;
    private static final int CALLS = 512;
    private static final String[] OFTEN = {"bring", "bring", "bring", "bring", "judge", "judge", "judge", "judge",
        "judge", "judge", "file", "file", "passUnseen", "measure", "calibrate", "calibrate", "addTool", "addBlock",
        "addType", "endDay", "undo", "keep", "goBack", "play", "text", "text", "text", "lookAtAll"};

    private final VernierDrawers program = new VernierDrawers();
    private final Model model = new Model();
    private final Random random;
    private final int run;
    private int calls;
    private final List<String> told = new ArrayList<>();

    private static final List<Method> FACE = face();

    private ModelTest(int run) {
        this.run = run;
        this.random = new Random(run);
    }

    public static void main(String[] args) throws Exception {
        for (int run = 0; run < RUNS; run++) {
            new ModelTest(run).runAll();
        }
        Check.end();
    }

    private static List<Method> face() {
        List<Method> face = new ArrayList<>();
        for (Method method : VernierDrawers.class.getDeclaredMethods()) {
            if (java.lang.reflect.Modifier.isPublic(method.getModifiers())) {
                face.add(method);
            }
        }
        face.sort(Comparator.comparing(Method::getName));
        return face;
    }

    private void runAll() throws Exception {
        if (run % 2 == 0) {
            furnish();
        }
        while (calls < CALLS) {
            if (random.nextInt(100) < 70) {
                often(OFTEN[random.nextInt(OFTEN.length)]);
            } else {
                call(FACE.get(random.nextInt(FACE.size())));
            }
        }
    }

    /** Puts things there at once, so that the run is not spent with refused calls. */
    private void furnish() throws Exception {
        call(named("addTool"), 4, random.nextInt(7) - 3);
        call(named("addTool"), random.nextInt(5), 0);
        call(named("addBlock"), 500, random.nextInt(7) - 3);
        call(named("addBlock"), 200, 0);
        call(named("addType"), 1000, -random.nextInt(40), random.nextInt(40), random.nextInt(3));
        call(named("addType"), 500, -random.nextInt(99), 60, random.nextInt(3));
    }

    private static Method named(String name) {
        for (Method method : FACE) {
            if (method.getName().equals(name)) {
                return method;
            }
        }
        throw new IllegalArgumentException(name);
    }

    private void often(String name) throws Exception {
        if (name.equals("text")) {
            writeText();
        } else if (name.equals("lookAtAll")) {
            lookAtAll();
        } else {
            call(named(name));
        }
    }

    private void lookAtAll() throws Exception {
        for (Method method : FACE) {
            String name = method.getName();
            boolean looks = method.getParameterCount() == 0 && !name.equals("undo") && !name.equals("goBack")
                    && !name.equals("play") && !name.equals("endDay") && !name.equals("passUnseen")
                    && !name.equals("keep") && !name.equals("clearText");
            if (looks) {
                call(method);
            }
        }
    }

    private void writeText() throws Exception {
        StringBuilder text = new StringBuilder();
        int orders = random.nextInt(7);
        for (int i = 0; i < orders; i++) {
            text.append(order());
        }
        if (random.nextInt(3) == 0 && text.length() > 0) {
            spoil(text);
        }
        call(named("clearText"));
        for (int i = 0; i < text.length() && i < 61; i++) {
            call(named("type"), (int) text.charAt(i));
        }
        call(named("faultPosition"));
        call(named("faultReason"));
        call(named("faultCause"));
        for (int i = random.nextInt(4); i >= 0; i--) {
            call(named("play"));
        }
    }

    private void spoil(StringBuilder text) {
        int at = random.nextInt(text.length());
        String signs = "mcpjfud,;0123456789 x~";
        char sign = signs.charAt(random.nextInt(signs.length()));
        switch (random.nextInt(4)) {
            case 0 -> text.setLength(at);
            case 1 -> text.setCharAt(at, sign);
            case 2 -> text.insert(at, sign);
            default -> text.deleteCharAt(at);
        }
    }

    private String order() {
        String first = number(random.nextInt(12) == 0 ? random.nextInt(8) : random.nextInt(2));
        return switch (random.nextInt(12)) {
            case 0 -> "m" + first + "," + number(some(0, 2500)) + ";";
            case 1, 2 -> "c" + first + "," + number(random.nextBoolean() ? 500 : some(1, 1000)) + ";";
            case 3, 4, 5 -> "p" + first + "," + number(some(0, 60)) + ";";
            case 6, 7, 8 -> "j" + first + ";";
            case 9 -> "f" + number(some(1, 60)) + ";";
            case 10 -> "u;";
            default -> "d;";
        };
    }

    private String number(int value) {
        int width = random.nextInt(10) == 0 ? 1 + random.nextInt(6) : 1;
        return String.format("%0" + width + "d", value);
    }

    /** A number of this range, seldom one beside it. */
    private int some(int least, int most) {
        int kind = random.nextInt(40);
        if (kind == 0) {
            return least - 1;
        }
        if (kind == 1) {
            return most + 1;
        }
        if (kind == 2) {
            return random.nextInt();
        }
        if (kind < 6) {
            return random.nextBoolean() ? least : most;
        }
        return least + random.nextInt(most - least + 1);
    }

    private int argument(String name, int place, int count) {
        switch (name) {
            case "addTool":
                return place == 0 ? some(0, 4) : some(-30, 30);
            case "addBlock":
                return place == 0 ? (random.nextBoolean() ? 100 * some(1, 50) : some(1, 5000)) : some(-3, 3);
            case "setWarmth":
                return some(-10, 50);
            case "addType":
                return place == 0 ? some(100, random.nextBoolean() ? 2500 : 14000)
                        : place == 1 ? some(-99, 0) : place == 2 ? some(0, 99) : some(0, 2);
            case "bring":
                return place == 0 ? some(0, 2) : random.nextInt(3) == 0 ? some(-200, 200) : some(-45, 45);
            case "file":
                return some(1, 99);
            case "setTolerance":
                return some(0, 99);
            case "stretchOf":
                return place == 0 ? some(0, 2) : some(0, 15000);
            case "typeAt":
            case "wasDoubted":
                return some(0, 8);
            case "type":
                return some(32, 126);
            case "chartedAt":
                return place == 0 ? some(0, 2) : some(0, 11);
            default:
                return otherArgument(name, place, count);
        }
    }

    private int otherArgument(String name, int place, int count) {
        boolean ofBlocks = name.equals("fewestBlocks") || name.equals("fewestByTrying") || name.equals("stackFor")
                || name.equals("trueLength") || name.equals("calibrate") && place == 1;
        if (ofBlocks) {
            return random.nextInt(4) == 0 ? some(1, 15000) : 100 * some(1, 40);
        }
        if (count == 3 && place == 1) {
            return some(0, 2);
        }
        if (count == 3 && place == 2) {
            return some(0, random.nextBoolean() ? 2500 : 15000);
        }
        return some(0, 2);
    }

    private void call(Method method, int... given) throws Exception {
        int count = method.getParameterCount();
        Object[] arguments = new Object[count];
        StringBuilder what = new StringBuilder(method.getName());
        for (int i = 0; i < count; i++) {
            arguments[i] = i < given.length ? given[i] : argument(method.getName(), i, count);
            what.append(' ').append(arguments[i]);
        }
        Method other = Model.class.getDeclaredMethod(method.getName(), method.getParameterTypes());
        String got = answer(method, program, arguments);
        String due = answer(other, model, arguments);
        told.add(what + " -> " + due);
        calls++;
        boolean same = got.equals(due);
        Check.is("run " + run + ", call " + calls + ": " + what + " answered " + got + ", due is " + due
                + (same ? "" : " after " + told), 1, () -> Check.of(same));
        if (!same) {
            Check.end();
        }
    }

    private static String answer(Method method, Object object, Object[] arguments) throws Exception {
        try {
            return String.valueOf(method.invoke(object, arguments));
        } catch (InvocationTargetException e) {
            return e.getCause().getClass().getSimpleName();
        }
    }
}
