import java.util.ArrayDeque;
import java.util.ArrayList;
import java.util.Collections;
import java.util.List;
import java.util.NoSuchElementException;
import java.util.TreeSet;
import java.util.regex.Matcher;
import java.util.regex.Pattern;

/**
 * The document once more, told by lists, copies and exceptions instead of rows that are used
 * again: ModelTest compares both.
 */
final class Model {
    private static final Pattern ORDER =
            Pattern.compile("[mcp][0-9]{1,5},[0-9]{1,5};|[jf][0-9]{1,5};|[ud];");

    private static final class MTool {
        int kind;
        int error;
        int known;
        int wear;
        int rub;
        int uses;
        int since;
        int day;

        MTool copy() {
            MTool t = new MTool();
            t.kind = kind;
            t.error = error;
            t.known = known;
            t.wear = wear;
            t.rub = rub;
            t.uses = uses;
            t.since = since;
            t.day = day;
            return t;
        }

        int lines() {
            return kind == 0 ? 10 : kind == 1 ? 20 : kind == 4 ? 100 : 50;
        }

        int apart() {
            return kind == 3 ? 50 : 100;
        }

        int step() {
            return apart() / lines();
        }

        int greatest() {
            return kind < 3 ? 15000 : 2500;
        }
    }

    private record MPiece(int type, int deviation, boolean doubted) {
    }

    private static final class MType {
        int length;
        int lower;
        int upper;
        int material;
        int manner;
        boolean passed;
        List<Boolean> record = new ArrayList<>();
        List<Integer> chart = new ArrayList<>();

        MType copy() {
            MType t = new MType();
            t.length = length;
            t.lower = lower;
            t.upper = upper;
            t.material = material;
            t.manner = manner;
            t.passed = passed;
            t.record = new ArrayList<>(record);
            t.chart = new ArrayList<>(chart);
            return t;
        }
    }

    private static final class S {
        List<MTool> tools = new ArrayList<>();
        List<int[]> blocks = new ArrayList<>();
        List<MType> types = new ArrayList<>();
        List<MPiece> bench = new ArrayList<>();
        List<MPiece> queue = new ArrayList<>();
        int warmth = 20;
        int day;
        int tolerance = 10;
        int brought;
        int good;
        int away;
        int unseen;
        int doubts;
        int results;

        S copy() {
            S s = new S();
            tools.forEach(t -> s.tools.add(t.copy()));
            blocks.forEach(b -> s.blocks.add(b.clone()));
            types.forEach(t -> s.types.add(t.copy()));
            s.bench.addAll(bench);
            s.queue.addAll(queue);
            s.warmth = warmth;
            s.day = day;
            s.tolerance = tolerance;
            s.brought = brought;
            s.good = good;
            s.away = away;
            s.unseen = unseen;
            s.doubts = doubts;
            s.results = results;
            return s;
        }
    }

    private S s = new S();
    private S snapshot;
    private final ArrayDeque<S> history = new ArrayDeque<>();
    private String text = "";

    private static void argument(boolean fine) {
        if (!fine) {
            throw new IllegalArgumentException();
        }
    }

    private static void state(boolean fine) {
        if (!fine) {
            throw new IllegalStateException();
        }
    }

    private static void element(boolean fine) {
        if (!fine) {
            throw new NoSuchElementException();
        }
    }

    private static boolean in(int value, int least, int most) {
        return least <= value && value <= most;
    }

    private void change() {
        history.addLast(s.copy());
        if (history.size() == 5) {
            history.removeFirst();
        }
    }

    private MTool tool(int tool) {
        argument(in(tool, 0, s.tools.size() - 1));
        return s.tools.get(tool);
    }

    private MType typeOf(int type) {
        argument(in(type, 0, s.types.size() - 1));
        return s.types.get(type);
    }

    public int addTool(int kind, int error) {
        argument(in(kind, 0, 4) && in(error, -30, 30));
        state(s.tools.size() < 6);
        change();
        MTool t = new MTool();
        t.kind = kind;
        t.error = error;
        t.day = s.day;
        s.tools.add(t);
        return s.tools.size() - 1;
    }

    public int addBlock(int length, int error) {
        argument(in(length, 1, 5000) && in(error, -3, 3));
        state(s.blocks.size() < 10);
        change();
        s.blocks.add(new int[] {length, error, 0});
        return s.blocks.size() - 1;
    }

    public int setWarmth(int degrees) {
        argument(in(degrees, -10, 50));
        change();
        int before = s.warmth;
        s.warmth = degrees;
        return before;
    }

    private int stretch(int material, int length) {
        double number = new double[] {12, 19, 23}[material];
        return (int) (length * number * (s.warmth - 20) / 1000000.0);
    }

    private int shown(MTool t, int material, int length) {
        return length + stretch(material, length) + t.error - stretch(0, length) - t.wear;
    }

    /** -1 if it cannot be read; else all multiples around it are looked at. */
    private int read(MTool t, int material, int length) {
        int shown = shown(t, material, length);
        if (shown < 0 || shown > t.greatest()) {
            return -1;
        }
        int best = 0;
        for (int m = 0; m <= shown + t.step(); m += t.step()) {
            if (Math.abs(m - shown) <= Math.abs(best - shown)) {
                best = m;
            }
        }
        return best;
    }

    private void use(MTool t, int material) {
        t.uses++;
        t.since++;
        t.rub += 3 - material;
        if (t.rub >= 20) {
            t.rub -= 20;
            if (t.wear < 40) {
                t.wear++;
            }
        }
    }

    private int doMeasure(int tool, int material, int length) {
        MTool t = tool(tool);
        argument(in(material, 0, 2) && in(length, 0, 15000));
        int reading = read(t, material, length);
        state(reading >= 0);
        use(t, material);
        return reading - t.known;
    }

    public int measure(int tool, int material, int length) {
        return changing(() -> doMeasure(tool, material, length));
    }

    /** Does a call on a copy, so that a call that throws changes nothing. */
    private int changing(java.util.function.IntSupplier call) {
        S before = s;
        s = before.copy();
        try {
            int answer = call.getAsInt();
            S after = s;
            s = before;
            change();
            s = after;
            return answer;
        } catch (RuntimeException e) {
            s = before;
            throw e;
        }
    }

    private List<Integer> stack(int length) {
        List<Integer> best = null;
        int bestSet = 0;
        for (int set = 1; set < 1 << s.blocks.size(); set++) {
            List<Integer> members = new ArrayList<>();
            int sum = 0;
            for (int b = 0; b < s.blocks.size(); b++) {
                if ((set & 1 << b) != 0) {
                    members.add(b);
                    sum += s.blocks.get(b)[0];
                }
            }
            if (sum == length && members.size() <= 5 && (best == null || members.size() < best.size()
                    || members.size() == best.size() && set < bestSet)) {
                best = members;
                bestSet = set;
            }
        }
        return best;
    }

    private int truly(List<Integer> stack) {
        int sum = (stack.size() - 1) / 2;
        for (int b : stack) {
            sum += s.blocks.get(b)[0] + s.blocks.get(b)[1];
        }
        return sum;
    }

    private int doCalibrate(int tool, int length) {
        MTool t = tool(tool);
        argument(in(length, 1, 15000));
        List<Integer> stack = stack(length);
        state(stack != null);
        int reading = read(t, 0, truly(stack));
        state(reading >= 0);
        use(t, 0);
        t.known = reading - length;
        t.since = 0;
        t.day = s.day;
        for (int b : stack) {
            int[] block = s.blocks.get(b);
            block[2]++;
            if (block[2] % 10 == 0 && block[1] > -9) {
                block[1]--;
            }
        }
        return t.known;
    }

    public int calibrate(int tool, int length) {
        return changing(() -> doCalibrate(tool, length));
    }

    private boolean due(MTool t) {
        return t.since >= 30 || s.day - t.day >= 10;
    }

    private int doEndDay() {
        state(s.day < 999);
        s.day++;
        return (int) s.tools.stream().filter(this::due).count();
    }

    public int endDay() {
        return changing(this::doEndDay);
    }

    public int addType(int length, int lower, int upper, int material) {
        argument(in(length, 100, 14000) && in(lower, -99, 0) && in(upper, 0, 99) && in(material, 0, 2));
        state(s.types.size() < 5);
        change();
        MType t = new MType();
        t.length = length;
        t.lower = lower;
        t.upper = upper;
        t.material = material;
        s.types.add(t);
        return s.types.size() - 1;
    }

    private int doBring(int type, int deviation) {
        MType t = typeOf(type);
        argument(in(deviation, -200, 200) && t.length + deviation >= 1);
        state(s.bench.size() < 20);
        s.bench.add(new MPiece(type, deviation, false));
        s.brought++;
        return s.bench.size();
    }

    public int bring(int type, int deviation) {
        return changing(() -> doBring(type, deviation));
    }

    private int doJudge(int tool) {
        MTool t = tool(tool);
        state(whyNotJudge(tool) == 0);
        int outcome = wouldJudge(tool);
        MPiece p = s.bench.remove(0);
        MType type = s.types.get(p.type);
        int measured = read(t, type.material, type.length + p.deviation) - t.known - type.length;
        use(t, type.material);
        if (outcome == 3) {
            s.doubts++;
            s.bench.add(new MPiece(p.type, p.deviation, true));
            return 3;
        }
        s.results++;
        if (outcome == 0) {
            s.good++;
        } else if (outcome == 1) {
            s.queue.add(new MPiece(p.type, p.deviation, false));
        } else {
            s.away++;
        }
        result(type, measured, outcome != 0);
        return outcome;
    }

    private static <T> List<T> latest(List<T> list, int many) {
        return list.subList(Math.max(0, list.size() - many), list.size());
    }

    private void result(MType type, int measured, boolean bad) {
        type.passed = false;
        type.chart.add(measured);
        if (type.chart.size() > 12) {
            type.chart.remove(0);
        }
        type.record.add(bad);
        if (type.record.size() > 10) {
            type.record.remove(0);
        }
        int before = type.manner;
        type.manner = manner(type.manner, type.record, bad);
        if (type.manner != before) {
            type.record.clear();
        }
    }

    private static int manner(int manner, List<Boolean> record, boolean bad) {
        int badOfFive = Collections.frequency(latest(record, 5), true);
        if (manner == 0) {
            return badOfFive >= 2 ? 1 : record.size() == 10 && !record.contains(true) ? 2 : 0;
        }
        if (manner == 1) {
            return record.size() >= 5 && badOfFive == 0 ? 0 : 1;
        }
        return bad ? 0 : 2;
    }

    public int judge(int tool) {
        return changing(() -> doJudge(tool));
    }

    private int doFile(int amount) {
        argument(in(amount, 1, 99));
        state(!s.queue.isEmpty());
        MPiece p = s.queue.get(0);
        state(s.types.get(p.type).length + p.deviation - amount >= 1);
        state(s.bench.size() < 20);
        s.queue.remove(0);
        s.bench.add(new MPiece(p.type, p.deviation - amount, false));
        return p.deviation - amount;
    }

    public int file(int amount) {
        return changing(() -> doFile(amount));
    }

    private int doPass() {
        state(whyNotPass() == 0);
        MPiece p = s.bench.remove(0);
        s.types.get(p.type).passed = true;
        s.unseen++;
        return p.type;
    }

    public int passUnseen() {
        return changing(this::doPass);
    }

    public int throwOut(int type) {
        typeOf(type);
        change();
        MType t = typeOf(type);
        if (t.chart.isEmpty()) {
            return 0;
        }
        int middle = middleOf(type);
        int before = t.chart.size();
        t.chart.removeIf(d -> d > middle + s.tolerance || d < middle - s.tolerance);
        return before - t.chart.size();
    }

    public int setTolerance(int length) {
        argument(in(length, 0, 99));
        change();
        int before = s.tolerance;
        s.tolerance = length;
        return before;
    }

    public int tools() {
        return s.tools.size();
    }

    public int kindOf(int tool) {
        return tool(tool).kind;
    }

    public int stepOf(int tool) {
        return tool(tool).step();
    }

    public int usesOf(int tool) {
        return tool(tool).uses;
    }

    public int wearOf(int tool) {
        return tool(tool).wear;
    }

    public int knownError(int tool) {
        return tool(tool).known;
    }

    public boolean isDue(int tool) {
        return due(tool(tool));
    }

    public int usesLeft(int tool) {
        int since = tool(tool).since;
        return since > 30 ? 0 : 30 - since;
    }

    public int warmth() {
        return s.warmth;
    }

    public int stretchOf(int material, int length) {
        argument(in(material, 0, 2) && in(length, 0, 15000));
        return stretch(material, length);
    }

    public int readingFor(int tool, int material, int length) {
        MTool t = tool(tool);
        argument(in(material, 0, 2) && in(length, 0, 15000));
        int reading = read(t, material, length);
        element(reading >= 0);
        return reading;
    }

    public int readingByLooking(int tool, int material, int length) {
        return readingFor(tool, material, length);
    }

    public int markFor(int tool, int material, int length) {
        int reading = readingFor(tool, material, length);
        return Math.floorDiv(reading, tool(tool).apart());
    }

    public int lineFor(int tool, int material, int length) {
        int reading = readingFor(tool, material, length);
        return Math.floorMod(reading, tool(tool).apart()) / tool(tool).step();
    }

    public int offBy(int tool, int material, int length) {
        int off = readingFor(tool, material, length) - tool(tool).known - length;
        return off < 0 ? -off : off;
    }

    public int blocks() {
        return s.blocks.size();
    }

    public int blockLength(int block) {
        argument(in(block, 0, s.blocks.size() - 1));
        return s.blocks.get(block)[0];
    }

    public int blockError(int block) {
        argument(in(block, 0, s.blocks.size() - 1));
        return s.blocks.get(block)[1];
    }

    private List<Integer> needStack(int length) {
        argument(in(length, 1, 15000));
        List<Integer> stack = stack(length);
        element(stack != null);
        return stack;
    }

    public int fewestBlocks(int length) {
        return needStack(length).size();
    }

    public int fewestByTrying(int length) {
        return needStack(length).size();
    }

    public int stackFor(int length) {
        int set = 0;
        for (int b : needStack(length)) {
            set += 1 << b;
        }
        return set;
    }

    public int trueLength(int length) {
        return truly(needStack(length));
    }

    public int stackable() {
        TreeSet<Integer> lengths = new TreeSet<>();
        sums(0, 0, 0, lengths);
        return lengths.subSet(1, true, 15000, true).size();
    }

    private void sums(int from, int many, int sum, TreeSet<Integer> lengths) {
        lengths.add(sum);
        for (int b = from; b < s.blocks.size() && many < 5; b++) {
            sums(b + 1, many + 1, sum + s.blocks.get(b)[0], lengths);
        }
    }

    public int types() {
        return s.types.size();
    }

    public int lengthOf(int type) {
        return typeOf(type).length;
    }

    public int widthOf(int type) {
        return typeOf(type).upper - typeOf(type).lower;
    }

    public int onBench() {
        return s.bench.size();
    }

    public int typeAt(int place) {
        argument(place >= 0);
        element(place < s.bench.size());
        return s.bench.get(place).type;
    }

    public boolean wasDoubted(int place) {
        argument(place >= 0);
        element(place < s.bench.size());
        return s.bench.get(place).doubted;
    }

    public int toFile() {
        return s.queue.size();
    }

    public int whyNotJudge(int tool) {
        MTool t = tool(tool);
        if (s.bench.isEmpty()) {
            return 1;
        }
        MPiece p = s.bench.get(0);
        MType type = s.types.get(p.type);
        return due(t) ? 2 : 5 * t.step() > type.upper - type.lower ? 3
                : read(t, type.material, type.length + p.deviation) < 0 ? 4 : 0;
    }

    public int wouldJudge(int tool) {
        element(whyNotJudge(tool) == 0);
        MTool t = tool(tool);
        MPiece p = s.bench.get(0);
        MType type = s.types.get(p.type);
        int measured = read(t, type.material, type.length + p.deviation) - t.known - type.length;
        int step = t.step();
        boolean near = in(measured, type.lower - step + 1, type.lower + step - 1)
                || in(measured, type.upper - step + 1, type.upper + step - 1);
        if (near && !p.doubted) {
            return 3;
        }
        return measured > type.upper ? 1 : measured < type.lower ? 2 : 0;
    }

    public int bestTool() {
        for (int step : new int[] {1, 2, 5, 10}) {
            for (int tool = 0; tool < s.tools.size(); tool++) {
                if (s.tools.get(tool).step() == step && whyNotJudge(tool) == 0) {
                    return tool;
                }
            }
        }
        throw new NoSuchElementException();
    }

    public int whyNotPass() {
        if (s.bench.isEmpty()) {
            return 1;
        }
        MType type = s.types.get(s.bench.get(0).type);
        return type.manner != 2 ? 2 : type.passed ? 3 : 0;
    }

    public int mannerOf(int type) {
        return typeOf(type).manner;
    }

    public int recordOf(int type) {
        return typeOf(type).record.size();
    }

    public int badOf(int type) {
        return Collections.frequency(typeOf(type).record, true);
    }

    /** By letting good ones come to a copy of the record. */
    public int goodUntilChange(int type) {
        MType t = typeOf(type).copy();
        element(t.manner != 2);
        int before = t.manner;
        int many = 0;
        while (t.manner == before && many < 99) {
            result(t, 0, false);
            many++;
        }
        return many;
    }

    public int charted(int type) {
        return typeOf(type).chart.size();
    }

    public int chartedAt(int type, int place) {
        MType t = typeOf(type);
        argument(place >= 0);
        element(place < t.chart.size());
        return t.chart.get(place);
    }

    public int signalsOf(int type) {
        MType t = typeOf(type);
        int sum = 0;
        if (t.chart.isEmpty()) {
            return 0;
        }
        int last = t.chart.get(t.chart.size() - 1);
        if (last > t.upper || last < t.lower) {
            sum += 1;
        }
        if (t.chart.size() >= 6) {
            List<Integer> six = latest(t.chart, 6);
            List<Integer> up = new ArrayList<>(new TreeSet<>(six));
            List<Integer> down = new ArrayList<>(up);
            Collections.reverse(down);
            if (six.equals(up) || six.equals(down)) {
                sum += 2;
            }
        }
        if (t.chart.size() >= 7) {
            List<Integer> seven = latest(t.chart, 7);
            if (Collections.min(seven) > 0 || Collections.max(seven) < 0) {
                sum += 4;
            }
        }
        if (t.chart.size() >= 3) {
            List<Integer> three = latest(t.chart, 3);
            long above = three.stream().filter(d -> 3 * d > 2 * t.upper).count();
            long below = three.stream().filter(d -> 3 * d < 2 * t.lower).count();
            if (above >= 2 || below >= 2) {
                sum += 8;
            }
        }
        return sum;
    }

    private List<Integer> ordered(int type) {
        List<Integer> ordered = new ArrayList<>(typeOf(type).chart);
        element(!ordered.isEmpty());
        Collections.sort(ordered);
        return ordered;
    }

    public int middleOf(int type) {
        List<Integer> ordered = ordered(type);
        return ordered.get(ordered.size() / 2);
    }

    public int middleByTaking(int type) {
        return middleOf(type);
    }

    public int spreadOf(int type) {
        List<Integer> ordered = ordered(type);
        return ordered.get(ordered.size() - 1) - ordered.get(0);
    }

    public float meanOf(int type) {
        float sum = 0;
        for (int d : ordered(type)) {
            sum += d;
        }
        return sum / typeOf(type).chart.size();
    }

    public int days() {
        return s.day;
    }

    public int brought() {
        return s.brought;
    }

    public int broughtByPlaces() {
        return s.brought;
    }

    public int good() {
        return s.good;
    }

    public int thrownAway() {
        return s.away;
    }

    public int unseen() {
        return s.unseen;
    }

    public int doubts() {
        return s.doubts;
    }

    public float goodShare() {
        element(s.results > 0);
        return (float) s.good / s.results;
    }

    public int keep() {
        snapshot = s.copy();
        return s.bench.size();
    }

    public int goBack() {
        state(snapshot != null);
        change();
        s = snapshot.copy();
        return s.bench.size();
    }

    public int states() {
        return history.size();
    }

    public int undo() {
        state(!history.isEmpty());
        s = history.removeLast();
        return history.size();
    }

    public int type(int character) {
        argument(in(character, 32, 126));
        state(text.length() < 60);
        text += (char) character;
        return text.length();
    }

    public int clearText() {
        int before = text.length();
        text = "";
        return before;
    }

    /** Position, reason and cause of the fault; null, and the orders done, if there is none. */
    private int[] doText() {
        int at = 0;
        orders = 0;
        while (at < text.length()) {
            int length = formed(text.substring(at));
            if (length < 0) {
                return new int[] {at, 1, -length - 1};
            }
            String[] numbers = text.substring(at + 1, at + length - 1).split(",");
            int first = numbers[0].isEmpty() ? 0 : Integer.parseInt(numbers[0]);
            int second = numbers.length < 2 ? 0 : Integer.parseInt(numbers[1]);
            try {
                order(text.charAt(at), first, second);
            } catch (IllegalArgumentException e) {
                return new int[] {at, 2, 1};
            } catch (IllegalStateException e) {
                return new int[] {at, 2, 2};
            }
            at += length;
            orders++;
        }
        return null;
    }

    private int orders;

    /** The length of the order at the begin, or where it breaks off, as -1 less it. */
    private static int formed(String rest) {
        for (int length = 1; length <= rest.length(); length++) {
            Matcher matcher = ORDER.matcher(rest.substring(0, length));
            if (matcher.matches()) {
                return length;
            }
            if (!matcher.hitEnd()) {
                return -length;
            }
        }
        return -rest.length() - 1;
    }

    private void order(char letter, int first, int second) {
        switch (letter) {
            case 'm' -> doMeasure(first, 0, second);
            case 'c' -> doCalibrate(first, second);
            case 'p' -> doBring(first, second);
            case 'j' -> doJudge(first);
            case 'f' -> doFile(first);
            case 'u' -> doPass();
            default -> doEndDay();
        }
    }

    private int[] fault() {
        S before = s;
        s = s.copy();
        int[] fault = doText();
        s = before;
        element(fault != null);
        return fault;
    }

    public int faultPosition() {
        return fault()[0];
    }

    public int faultReason() {
        return fault()[1];
    }

    public int faultCause() {
        return fault()[2];
    }

    public int play() {
        return changing(() -> {
            state(doText() == null);
            return orders;
        });
    }
}
