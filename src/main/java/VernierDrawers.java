import java.util.Arrays;
import java.util.NoSuchElementException;

/** A drawer with callipers and screws, and a bench with pieces. */
public final class VernierDrawers {
    private static final int MOST_TOOLS = 6;
    private static final int MOST_BLOCKS = 10;
    private static final int MOST_TYPES = 5;
    private static final int MOST_ON_BENCH = 20;
    private static final int MOST_STATES = 4;
    private static final int MOST_CHARACTERS = 60;
    private static final int MOST_STACKED = 5;
    private static final int MOST_DAYS = 999;
    private static final int MOST_WEAR = 40;
    private static final int LEAST_BLOCK_ERROR = -9;
    private static final int LONGEST = 15000;

    private static final int RUBBING_OF_WEAR = 20;
    private static final int USES_UNTIL_DUE = 30;
    private static final int DAYS_UNTIL_DUE = 10;
    private static final int USES_OF_BLOCK_ERROR = 10;
    private static final int USUAL_WARMTH = 20;

    private static final int RECORD_SIZE = 10;
    private static final int LATEST_RESULTS = 5;
    private static final int CHART_SIZE = 12;

    // By the kind of a tool.
    private static final int[] LINES = {10, 20, 50, 50, 100};
    private static final int[] MARK_DISTANCES = {100, 100, 100, 50, 100};
    private static final int[] GREATEST_MARKS = {15000, 15000, 15000, 2500, 2500};

    // By the material.
    private static final int STEEL = 0;
    private static final int[] STRETCH_NUMBERS = {12, 19, 23};
    private static final int[] RUBBINGS = {3, 2, 1};

    private static final int PLAINLY = 0;
    private static final int STRICTLY = 1;
    private static final int LOOSELY = 2;

    private static final int GOOD = 0;
    private static final int TO_BE_FILED = 1;
    private static final int THROWN_AWAY = 2;
    private static final int DOUBTED = 3;

    // Why a call is refused; the same numbers are the causes of faults.
    private static final int POSSIBLE = 0;
    private static final int WRONG_ARGUMENT = 1;
    private static final int WRONG_STATE = 2;

    private static final int UNREADABLE = -1;

    // By the place of an order's letter among these.
    private static final String ORDER_LETTERS = "mcpjfud";
    private static final int[] ORDER_NUMBERS = {2, 2, 2, 1, 1, 0, 0};
    private static final int ORDER_MEASURE = 0;
    private static final int ORDER_CALIBRATE = 1;
    private static final int ORDER_BRING = 2;
    private static final int ORDER_JUDGE = 3;
    private static final int ORDER_FILE = 4;
    private static final int ORDER_PASS = 5;
    private static final int ORDER_END_DAY = 6;
    private static final int MOST_DIGITS = 5;
    private static final int NOT_BROKEN = -1;

    private static final int NO_FAULT = 0;
    private static final int FAULT_OF_FORM = 1;
    private static final int FAULT_OF_CALL = 2;

    private State now = new State();
    private final State[] history = new State[MOST_STATES];
    private int historyCount;
    private final State snapshot = new State();
    private boolean hasSnapshot;
    private final char[] text = new char[MOST_CHARACTERS];
    private int textLength;
    private final Trial trial = new Trial();
    private final StackTable stackTable = new StackTable();

    public VernierDrawers() {
        for (int i = 0; i < history.length; i++) {
            history[i] = new State();
        }
    }

    // ---- changes of the drawer

    public int addTool(int kind, int error) throws IllegalArgumentException, IllegalStateException {
        Drawer drawer = now.drawer;
        if (!inRange(kind, 0, LINES.length - 1) || !inRange(error, -30, 30)) {
            throw new IllegalArgumentException("kind or error is out of range");
        }
        if (drawer.toolCount >= MOST_TOOLS) {
            throw new IllegalStateException("there are 6 tools");
        }
        recordState();
        return drawer.putTool(kind, error);
    }

    public int addBlock(int length, int error) throws IllegalArgumentException, IllegalStateException {
        Drawer drawer = now.drawer;
        if (!inRange(length, 1, 5000) || !inRange(error, -3, 3)) {
            throw new IllegalArgumentException("length or error is out of range");
        }
        if (drawer.blockCount >= MOST_BLOCKS) {
            throw new IllegalStateException("there are 10 blocks");
        }
        recordState();
        return drawer.putBlock(length, error);
    }

    public int setWarmth(int degrees) throws IllegalArgumentException {
        if (!inRange(degrees, -10, 50)) {
            throw new IllegalArgumentException("degrees is out of range");
        }
        recordState();
        int before = now.drawer.degrees;
        now.drawer.degrees = degrees;
        return before;
    }

    public int measure(int tool, int material, int length)
            throws IllegalArgumentException, IllegalStateException {
        refuse(now.drawer.refusalToMeasure(tool, material, length));
        recordState();
        return now.drawer.measureLength(tool, material, length);
    }

    public int calibrate(int tool, int length) throws IllegalArgumentException, IllegalStateException {
        refuse(now.drawer.refusalToCalibrate(tool, length));
        recordState();
        return now.drawer.calibrateTool(tool, length);
    }

    public int endDay() throws IllegalStateException {
        refuse(now.drawer.refusalToEndDay());
        recordState();
        now.drawer.day++;
        return now.drawer.countDue();
    }

    // ---- changes of the bench

    public int addType(int length, int lower, int upper, int material)
            throws IllegalArgumentException, IllegalStateException {
        if (!inRange(length, 100, 14000) || !inRange(lower, -99, 0)
                || !inRange(upper, 0, 99) || !isMaterial(material)) {
            throw new IllegalArgumentException("length, lower, upper or material is out of range");
        }
        if (now.bench.typeCount >= MOST_TYPES) {
            throw new IllegalStateException("there are 5 types");
        }
        recordState();
        return now.bench.putType(length, lower, upper, material);
    }

    public int bring(int type, int deviation) throws IllegalArgumentException, IllegalStateException {
        refuse(now.bench.refusalToBring(type, deviation));
        recordState();
        return now.bench.bringPiece(type, deviation);
    }

    public int judge(int tool) throws IllegalArgumentException, IllegalStateException {
        refuse(now.bench.refusalToJudge(now.drawer, tool));
        recordState();
        return now.bench.judgeFirst(now.drawer, tool);
    }

    public int file(int amount) throws IllegalArgumentException, IllegalStateException {
        refuse(now.bench.refusalToFile(amount));
        recordState();
        return now.bench.fileFirst(amount);
    }

    public int passUnseen() throws IllegalStateException {
        refuse(now.bench.refusalToPass());
        recordState();
        return now.bench.passFirst();
    }

    public int throwOut(int type) throws IllegalArgumentException {
        PieceType charted = needType(type);
        recordState();
        return charted.throwOutOfChart(now.bench.tolerance);
    }

    public int setTolerance(int length) throws IllegalArgumentException {
        if (!inRange(length, 0, 99)) {
            throw new IllegalArgumentException("length is out of range");
        }
        recordState();
        int before = now.bench.tolerance;
        now.bench.tolerance = length;
        return before;
    }

    // ---- tools

    public int tools() {
        return now.drawer.toolCount;
    }

    public int kindOf(int tool) throws IllegalArgumentException {
        return needTool(tool).kind;
    }

    public int stepOf(int tool) throws IllegalArgumentException {
        return needTool(tool).step;
    }

    public int usesOf(int tool) throws IllegalArgumentException {
        return needTool(tool).uses;
    }

    public int wearOf(int tool) throws IllegalArgumentException {
        return needTool(tool).wear;
    }

    public int knownError(int tool) throws IllegalArgumentException {
        return needTool(tool).known;
    }

    public boolean isDue(int tool) throws IllegalArgumentException {
        return needTool(tool).dueOn(now.drawer.day);
    }

    public int usesLeft(int tool) throws IllegalArgumentException {
        return Math.max(0, USES_UNTIL_DUE - needTool(tool).usesSince);
    }

    // ---- readings

    public int warmth() {
        return now.drawer.degrees;
    }

    public int stretchOf(int material, int length) throws IllegalArgumentException {
        if (!isMaterial(material) || !inRange(length, 0, LONGEST)) {
            throw new IllegalArgumentException("material or length is out of range");
        }
        return now.drawer.stretch(material, length);
    }

    public int readingFor(int tool, int material, int length)
            throws IllegalArgumentException, NoSuchElementException {
        return needReading(tool, material, length);
    }

    public int readingByLooking(int tool, int material, int length)
            throws IllegalArgumentException, NoSuchElementException {
        needReading(tool, material, length);
        Tool looked = needTool(tool);
        return looked.nearestLine(now.drawer.shown(looked, material, length));
    }

    public int markFor(int tool, int material, int length)
            throws IllegalArgumentException, NoSuchElementException {
        int reading = needReading(tool, material, length);
        return needTool(tool).markAt(reading);
    }

    public int lineFor(int tool, int material, int length)
            throws IllegalArgumentException, NoSuchElementException {
        int reading = needReading(tool, material, length);
        return needTool(tool).lineAt(reading);
    }

    public int offBy(int tool, int material, int length)
            throws IllegalArgumentException, NoSuchElementException {
        int reading = needReading(tool, material, length);
        return Math.abs(reading - needTool(tool).known - length);
    }

    // ---- blocks

    public int blocks() {
        return now.drawer.blockCount;
    }

    public int blockLength(int block) throws IllegalArgumentException {
        return needBlock(block).length;
    }

    public int blockError(int block) throws IllegalArgumentException {
        return needBlock(block).error;
    }

    public int fewestBlocks(int length) throws IllegalArgumentException, NoSuchElementException {
        needStackLength(length);
        stackTable.fill(now.drawer);
        int fewest = stackTable.fewestFor(length);
        if (fewest == 0) {
            throw new NoSuchElementException("the length cannot be stacked");
        }
        return fewest;
    }

    public int fewestByTrying(int length) throws IllegalArgumentException, NoSuchElementException {
        return Integer.bitCount(needStack(length));
    }

    public int stackFor(int length) throws IllegalArgumentException, NoSuchElementException {
        return needStack(length);
    }

    public int trueLength(int length) throws IllegalArgumentException, NoSuchElementException {
        return now.drawer.trueLengthOf(needStack(length));
    }

    public int stackable() {
        stackTable.fill(now.drawer);
        return stackTable.countLengths();
    }

    // ---- types, pieces

    public int types() {
        return now.bench.typeCount;
    }

    public int lengthOf(int type) throws IllegalArgumentException {
        return needType(type).length;
    }

    public int widthOf(int type) throws IllegalArgumentException {
        return needType(type).width();
    }

    public int onBench() {
        return now.bench.waiting.count;
    }

    public int typeAt(int place) throws IllegalArgumentException, NoSuchElementException {
        needPlace(place, now.bench.waiting.count);
        return now.bench.waiting.typeOfPiece(place);
    }

    public boolean wasDoubted(int place) throws IllegalArgumentException, NoSuchElementException {
        needPlace(place, now.bench.waiting.count);
        return now.bench.waiting.doubtedPiece(place);
    }

    public int toFile() {
        return now.bench.filing.count;
    }

    public int whyNotJudge(int tool) throws IllegalArgumentException {
        return now.bench.reasonNotToJudge(now.drawer, needTool(tool));
    }

    public int wouldJudge(int tool) throws IllegalArgumentException, NoSuchElementException {
        Tool tried = needTool(tool);
        if (now.bench.reasonNotToJudge(now.drawer, tried) != 0) {
            throw new NoSuchElementException("the first piece is not judged with this tool");
        }
        return now.bench.outcomeOf(now.bench.measuredWith(now.drawer, tried), tried);
    }

    public int bestTool() throws NoSuchElementException {
        int best = now.bestToolToJudge();
        if (best < 0) {
            throw new NoSuchElementException("the first piece is judged with no tool");
        }
        return best;
    }

    public int whyNotPass() {
        return now.bench.reasonNotToPass();
    }

    // ---- records, charts

    public int mannerOf(int type) throws IllegalArgumentException {
        return needType(type).manner;
    }

    public int recordOf(int type) throws IllegalArgumentException {
        return needType(type).recordCount;
    }

    public int badOf(int type) throws IllegalArgumentException {
        return needType(type).badOfLatest(RECORD_SIZE);
    }

    public int goodUntilChange(int type) throws IllegalArgumentException, NoSuchElementException {
        PieceType looked = needType(type);
        if (looked.manner == LOOSELY) {
            throw new NoSuchElementException("the type is looked at loosely");
        }
        int wanted = looked.manner == PLAINLY ? RECORD_SIZE : LATEST_RESULTS;
        return wanted - looked.goodAtEnd();
    }

    public int charted(int type) throws IllegalArgumentException {
        return needType(type).chartCount;
    }

    public int chartedAt(int type, int place) throws IllegalArgumentException, NoSuchElementException {
        PieceType looked = needType(type);
        needPlace(place, looked.chartCount);
        return entry(looked.chart, place);
    }

    public int signalsOf(int type) throws IllegalArgumentException {
        return needType(type).signals();
    }

    public int middleOf(int type) throws IllegalArgumentException, NoSuchElementException {
        return needChart(type).middleInOrder();
    }

    public int middleByTaking(int type) throws IllegalArgumentException, NoSuchElementException {
        return needChart(type).middleLeft();
    }

    public int spreadOf(int type) throws IllegalArgumentException, NoSuchElementException {
        return needChart(type).spread();
    }

    public float meanOf(int type) throws IllegalArgumentException, NoSuchElementException {
        PieceType looked = needChart(type);
        return share(looked.chartSum(), looked.chartCount);
    }

    // ---- accounts, the snapshot

    public int days() {
        return now.drawer.day;
    }

    public int brought() {
        return now.bench.brought;
    }

    public int broughtByPlaces() {
        Bench bench = now.bench;
        return bench.waiting.count + bench.filing.count + bench.good + bench.thrownAway + bench.unseen;
    }

    public int good() {
        return now.bench.good;
    }

    public int thrownAway() {
        return now.bench.thrownAway;
    }

    public int unseen() {
        return now.bench.unseen;
    }

    public int doubts() {
        return now.bench.doubts;
    }

    public float goodShare() throws NoSuchElementException {
        if (now.bench.results <= 0) {
            throw new NoSuchElementException("there were no results");
        }
        return share(now.bench.good, now.bench.results);
    }

    public int keep() {
        snapshot.copyFrom(now);
        hasSnapshot = true;
        return now.bench.waiting.count;
    }

    public int goBack() throws IllegalStateException {
        if (!hasSnapshot) {
            throw new IllegalStateException("there is no snapshot");
        }
        recordState();
        now.copyFrom(snapshot);
        return now.bench.waiting.count;
    }

    // ---- history, texts

    public int states() {
        return historyCount;
    }

    public int undo() throws IllegalStateException {
        if (historyCount <= 0 || historyCount > history.length) {
            throw new IllegalStateException("the history is empty");
        }
        historyCount--;
        State restored = history[historyCount];
        // The room of the state that is left is used again by the next record.
        history[historyCount] = now;
        now = restored;
        return historyCount;
    }

    public int type(int character) throws IllegalArgumentException, IllegalStateException {
        if (!inRange(character, 32, 126)) {
            throw new IllegalArgumentException("character is out of range");
        }
        if (textLength >= text.length) {
            throw new IllegalStateException("the text has 60 characters");
        }
        text[textLength] = (char) character;
        textLength++;
        return textLength;
    }

    public int clearText() {
        int before = textLength;
        textLength = 0;
        return before;
    }

    public int faultPosition() throws NoSuchElementException {
        trial.run(now, text, textLength);
        needFault();
        return trial.position;
    }

    public int faultReason() throws NoSuchElementException {
        trial.run(now, text, textLength);
        needFault();
        return trial.reason;
    }

    public int faultCause() throws NoSuchElementException {
        trial.run(now, text, textLength);
        needFault();
        return trial.cause;
    }

    public int play() throws IllegalStateException {
        trial.run(now, text, textLength);
        if (trial.reason != NO_FAULT) {
            throw new IllegalStateException("the text has a fault");
        }
        recordState();
        State before = now;
        now = trial.state;
        trial.state = before;
        return trial.orders;
    }

    // ---- helpers of the face

    private void recordState() {
        if (historyCount >= history.length) {
            dropOldestState();
        }
        history[historyCount].copyFrom(now);
        historyCount++;
    }

    private void dropOldestState() {
        State oldest = history[0];
        for (int i = 1; i < history.length; i++) {
            history[i - 1] = history[i];
        }
        // Its room is used again, so that no change makes objects.
        history[history.length - 1] = oldest;
        historyCount = history.length - 1;
    }

    private static void refuse(int refusal) {
        if (refusal == WRONG_ARGUMENT) {
            throw new IllegalArgumentException("an argument is out of range");
        }
        if (refusal == WRONG_STATE) {
            throw new IllegalStateException("this is not possible now");
        }
    }

    private Tool needTool(int tool) {
        if (!now.drawer.hasTool(tool)) {
            throw new IllegalArgumentException("there is no such tool");
        }
        return now.drawer.tools[tool];
    }

    private Block needBlock(int block) {
        if (!now.drawer.hasBlock(block)) {
            throw new IllegalArgumentException("there is no such block");
        }
        return now.drawer.blocks[block];
    }

    private PieceType needType(int type) {
        if (!now.bench.hasType(type)) {
            throw new IllegalArgumentException("there is no such type");
        }
        return now.bench.types[type];
    }

    private PieceType needChart(int type) {
        PieceType looked = needType(type);
        if (looked.chartCount <= 0) {
            throw new NoSuchElementException("the chart is empty");
        }
        return looked;
    }

    private static void needPlace(int place, int count) {
        if (place < 0) {
            throw new IllegalArgumentException("place is below 0");
        }
        if (place >= count) {
            throw new NoSuchElementException("there are not so many");
        }
    }

    private int needReading(int tool, int material, int length) {
        int refusal = now.drawer.refusalToMeasure(tool, material, length);
        if (refusal == WRONG_ARGUMENT) {
            throw new IllegalArgumentException("tool, material or length is out of range");
        }
        if (refusal == WRONG_STATE) {
            throw new NoSuchElementException("the tool cannot be read");
        }
        return now.drawer.reading(needTool(tool), material, length);
    }

    private static void needStackLength(int length) {
        if (!inRange(length, 1, LONGEST)) {
            throw new IllegalArgumentException("length is out of range");
        }
    }

    private int needStack(int length) {
        needStackLength(length);
        int stack = now.drawer.stack(length);
        if (stack == 0) {
            throw new NoSuchElementException("the length cannot be stacked");
        }
        return stack;
    }

    private void needFault() {
        if (trial.reason == NO_FAULT) {
            throw new NoSuchElementException("the text has no fault");
        }
    }

    // ---- helpers of all classes

    private static boolean inRange(int value, int least, int most) {
        return value >= least && value <= most;
    }

    private static boolean isMaterial(int material) {
        return inRange(material, 0, STRETCH_NUMBERS.length - 1);
    }

    private static int entry(int[] row, int place) {
        return place >= 0 && place < row.length ? row[place] : 0;
    }

    private static float share(int part, int whole) {
        return whole == 0 ? 0.0f : (float) part / (float) whole;
    }

    /** Appends to a row of which the first entry goes when it is full; returns how many it has then. */
    private static int append(int[] row, int count, int value) {
        int place = Math.min(count, row.length);
        if (place == row.length && place > 0) {
            System.arraycopy(row, 1, row, 0, row.length - 1);
            place--;
        }
        if (inRange(place, 0, row.length - 1)) {
            row[place] = value;
            place++;
        }
        return place;
    }

    private static final class Tool {
        int kind;
        int step;
        int zeroError;
        int known;
        int wear;
        int rubbed;
        int uses;
        int usesSince;
        int daySince;

        /** All fields are set, since the room may have held another tool before an undo. */
        void begin(int newKind, int error, int day) {
            int lines = entry(LINES, newKind);
            kind = newKind;
            step = lines == 0 ? 1 : entry(MARK_DISTANCES, newKind) / lines;
            zeroError = error;
            known = 0;
            wear = 0;
            rubbed = 0;
            uses = 0;
            usesSince = 0;
            daySince = day;
        }

        void copyFrom(Tool other) {
            kind = other.kind;
            step = other.step;
            zeroError = other.zeroError;
            known = other.known;
            wear = other.wear;
            rubbed = other.rubbed;
            uses = other.uses;
            usesSince = other.usesSince;
            daySince = other.daySince;
        }

        boolean dueOn(int day) {
            return usesSince >= USES_UNTIL_DUE || day - daySince >= DAYS_UNTIL_DUE;
        }

        void useOn(int material) {
            uses++;
            usesSince++;
            rubbed += entry(RUBBINGS, material);
            if (rubbed >= RUBBING_OF_WEAR) {
                rubbed -= RUBBING_OF_WEAR;
                wear = Math.min(MOST_WEAR, wear + 1);
            }
        }

        void learn(int error, int day) {
            known = error;
            usesSince = 0;
            daySince = day;
        }

        boolean canShow(int shown) {
            return inRange(shown, 0, entry(GREATEST_MARKS, kind));
        }

        int nearestMultiple(int shown) {
            // Half a step ahead, so that of two as near the greater one is taken.
            return step <= 0 ? shown : (shown + step / 2) / step * step;
        }

        int nearestLine(int shown) {
            int distance = entry(MARK_DISTANCES, kind);
            int lines = entry(LINES, kind);
            int first = markAt(shown);
            int nearest = first * distance;
            for (int mark = first; mark <= first + 1; mark++) {
                for (int line = 0; line < lines; line++) {
                    int told = mark * distance + line * step;
                    if (Math.abs(told - shown) <= Math.abs(nearest - shown)) {
                        nearest = told;
                    }
                }
            }
            return nearest;
        }

        int markAt(int reading) {
            int distance = entry(MARK_DISTANCES, kind);
            return distance <= 0 ? 0 : reading / distance;
        }

        int lineAt(int reading) {
            int left = reading - markAt(reading) * entry(MARK_DISTANCES, kind);
            return step <= 0 ? 0 : left / step;
        }
    }

    private static final class Block {
        int length;
        int error;
        int uses;

        void begin(int newLength, int newError) {
            length = newLength;
            error = newError;
            uses = 0;
        }

        void copyFrom(Block other) {
            length = other.length;
            error = other.error;
            uses = other.uses;
        }

        void useOnce() {
            uses++;
            if (uses % USES_OF_BLOCK_ERROR == 0) {
                error = Math.max(LEAST_BLOCK_ERROR, error - 1);
            }
        }
    }

    /** The tools, the blocks, the warmth and the day. */
    private static final class Drawer {
        final Tool[] tools = new Tool[MOST_TOOLS];
        final Block[] blocks = new Block[MOST_BLOCKS];
        int toolCount;
        int blockCount;
        int degrees = USUAL_WARMTH;
        int day;

        Drawer() {
            for (int i = 0; i < tools.length; i++) {
                tools[i] = new Tool();
            }
            for (int i = 0; i < blocks.length; i++) {
                blocks[i] = new Block();
            }
        }

        void copyFrom(Drawer other) {
            toolCount = other.toolCount;
            for (int i = 0; i < toolCount && i < tools.length; i++) {
                tools[i].copyFrom(other.tools[i]);
            }
            blockCount = other.blockCount;
            for (int i = 0; i < blockCount && i < blocks.length; i++) {
                blocks[i].copyFrom(other.blocks[i]);
            }
            degrees = other.degrees;
            day = other.day;
        }

        boolean hasTool(int tool) {
            return tool >= 0 && tool < toolCount && tool < tools.length;
        }

        boolean hasBlock(int block) {
            return block >= 0 && block < blockCount && block < blocks.length;
        }

        int putTool(int kind, int error) {
            int number = toolCount;
            if (number < tools.length) {
                tools[number].begin(kind, error, day);
                toolCount++;
            }
            return number;
        }

        int putBlock(int length, int error) {
            int number = blockCount;
            if (number < blocks.length) {
                blocks[number].begin(length, error);
                blockCount++;
            }
            return number;
        }

        int stretch(int material, int length) {
            if (material < 0 || material >= STRETCH_NUMBERS.length) {
                return 0;
            }
            return length * STRETCH_NUMBERS[material] * (degrees - USUAL_WARMTH) / 1000000;
        }

        int shown(Tool tool, int material, int length) {
            return length + stretch(material, length) + tool.zeroError - stretch(STEEL, length) - tool.wear;
        }

        int reading(Tool tool, int material, int length) {
            int shown = shown(tool, material, length);
            return tool.canShow(shown) ? tool.nearestMultiple(shown) : UNREADABLE;
        }

        int refusalToMeasure(int tool, int material, int length) {
            if (!hasTool(tool) || !isMaterial(material) || !inRange(length, 0, LONGEST)) {
                return WRONG_ARGUMENT;
            }
            return reading(tools[tool], material, length) == UNREADABLE ? WRONG_STATE : POSSIBLE;
        }

        int measureLength(int tool, int material, int length) {
            if (!hasTool(tool)) {
                return 0;
            }
            Tool used = tools[tool];
            int measured = reading(used, material, length) - used.known;
            used.useOn(material);
            return measured;
        }

        int refusalToCalibrate(int tool, int length) {
            if (!hasTool(tool) || !inRange(length, 1, LONGEST)) {
                return WRONG_ARGUMENT;
            }
            int stack = stack(length);
            if (stack == 0) {
                return WRONG_STATE;
            }
            return reading(tools[tool], STEEL, trueLengthOf(stack)) == UNREADABLE ? WRONG_STATE : POSSIBLE;
        }

        int calibrateTool(int tool, int length) {
            if (!hasTool(tool)) {
                return 0;
            }
            Tool used = tools[tool];
            int stack = stack(length);
            int learned = reading(used, STEEL, trueLengthOf(stack)) - length;
            used.useOn(STEEL);
            used.learn(learned, day);
            for (int b = 0; b < blockCount && b < blocks.length; b++) {
                if (isIn(stack, b)) {
                    blocks[b].useOnce();
                }
            }
            return learned;
        }

        int refusalToEndDay() {
            return day >= MOST_DAYS ? WRONG_STATE : POSSIBLE;
        }

        int countDue() {
            int due = 0;
            for (int i = 0; i < toolCount && i < tools.length; i++) {
                if (tools[i].dueOn(day)) {
                    due++;
                }
            }
            return due;
        }

        static boolean isIn(int set, int block) {
            return (set >> block & 1) == 1;
        }

        /** The stack of a length as a set, 0 if there is none. */
        int stack(int length) {
            int best = 0;
            int fewest = MOST_STACKED + 1;
            int sets = 1 << blockCount;
            for (int set = 1; set < sets; set++) {
                int size = Integer.bitCount(set);
                if (size < fewest && lengthOfSet(set) == length) {
                    best = set;
                    fewest = size;
                }
            }
            return best;
        }

        int lengthOfSet(int set) {
            int sum = 0;
            for (int b = 0; b < blockCount && b < blocks.length; b++) {
                if (isIn(set, b)) {
                    sum += blocks[b].length;
                }
            }
            return sum;
        }

        int trueLengthOf(int set) {
            int sum = lengthOfSet(set);
            for (int b = 0; b < blockCount && b < blocks.length; b++) {
                if (isIn(set, b)) {
                    sum += blocks[b].error;
                }
            }
            return sum + (Integer.bitCount(set) - 1) / 2;
        }
    }

    /**
     * For each length the fewest blocks, block by block: a row for each number of blocks has a
     * bit for each length, so that a block is put to all lengths of a row by one shift of it.
     */
    private static final class StackTable {
        private static final int BITS = 64;
        private static final int WORDS = LONGEST / BITS + 1;
        // No bits for lengths above the longest one.
        private static final long LAST_WORD = (1L << (LONGEST % BITS + 1)) - 1L;

        final long[][] rows = new long[MOST_STACKED + 1][WORDS];

        void fill(Drawer drawer) {
            for (int n = 0; n < rows.length; n++) {
                Arrays.fill(rows[n], 0L);
            }
            rows[0][0] = 1L;
            for (int b = 0; b < drawer.blockCount && b < drawer.blocks.length; b++) {
                // The most blocks first: else a block would be put to a stack that has it.
                for (int n = MOST_STACKED; n > 0; n--) {
                    putShifted(rows[n - 1], rows[n], drawer.blocks[b].length);
                }
            }
        }

        static void putShifted(long[] from, long[] into, int length) {
            int words = length / BITS;
            int bits = length % BITS;
            for (int w = words; w < WORDS; w++) {
                long shifted = from[w - words] << bits;
                if (bits > 0 && w > words) {
                    shifted |= from[w - words - 1] >>> (BITS - bits);
                }
                into[w] |= shifted;
            }
            into[WORDS - 1] &= LAST_WORD;
        }

        int fewestFor(int length) {
            if (!inRange(length, 1, LONGEST)) {
                return 0;
            }
            for (int n = 1; n < rows.length; n++) {
                if ((rows[n][length / BITS] >>> (length % BITS) & 1L) == 1L) {
                    return n;
                }
            }
            return 0;
        }

        int countLengths() {
            int lengths = 0;
            for (int w = 0; w < WORDS; w++) {
                long any = 0L;
                for (int n = 1; n < rows.length; n++) {
                    any |= rows[n][w];
                }
                lengths += Long.bitCount(any);
            }
            return lengths;
        }
    }

    /** A queue of pieces, the first one ahead. */
    private static final class Pieces {
        // More than 512 calls of 20 orders each can bring.
        private static final int MOST_PIECES = 16384;

        int[] typeRow = new int[MOST_ON_BENCH];
        int[] deviationRow = new int[MOST_ON_BENCH];
        int[] doubtedRow = new int[MOST_ON_BENCH];
        int count;

        void copyFrom(Pieces other) {
            makeRoom(other.count);
            count = Math.min(other.count, typeRow.length);
            System.arraycopy(other.typeRow, 0, typeRow, 0, count);
            System.arraycopy(other.deviationRow, 0, deviationRow, 0, count);
            System.arraycopy(other.doubtedRow, 0, doubtedRow, 0, count);
        }

        private void makeRoom(int wanted) {
            if (wanted <= typeRow.length || wanted > MOST_PIECES) {
                return;
            }
            int size = Math.max(wanted, Math.min(MOST_PIECES, 2 * typeRow.length));
            typeRow = Arrays.copyOf(typeRow, size);
            deviationRow = Arrays.copyOf(deviationRow, size);
            doubtedRow = Arrays.copyOf(doubtedRow, size);
        }

        void putLast(int type, int deviation, boolean doubted) {
            makeRoom(count + 1);
            if (count < typeRow.length) {
                typeRow[count] = type;
                deviationRow[count] = deviation;
                doubtedRow[count] = doubted ? 1 : 0;
                count++;
            }
        }

        void dropFirst() {
            if (count <= 0) {
                return;
            }
            count--;
            System.arraycopy(typeRow, 1, typeRow, 0, count);
            System.arraycopy(deviationRow, 1, deviationRow, 0, count);
            System.arraycopy(doubtedRow, 1, doubtedRow, 0, count);
        }

        int typeOfPiece(int place) {
            return entry(typeRow, place);
        }

        int firstDeviation() {
            return entry(deviationRow, 0);
        }

        boolean doubtedPiece(int place) {
            return entry(doubtedRow, place) == 1;
        }
    }

    /** A type of pieces with its limits, its record and its chart. */
    private static final class PieceType {
        int length;
        int lower;
        int upper;
        int material;
        int manner;
        boolean latestUnseen;
        // 1 for a bad result, 0 for a good one.
        final int[] badRow = new int[RECORD_SIZE];
        int recordCount;
        final int[] chart = new int[CHART_SIZE];
        int chartCount;

        void begin(int newLength, int newLower, int newUpper, int newMaterial) {
            length = newLength;
            lower = newLower;
            upper = newUpper;
            material = newMaterial;
            manner = PLAINLY;
            latestUnseen = false;
            recordCount = 0;
            chartCount = 0;
        }

        void copyFrom(PieceType other) {
            length = other.length;
            lower = other.lower;
            upper = other.upper;
            material = other.material;
            manner = other.manner;
            latestUnseen = other.latestUnseen;
            recordCount = other.recordCount;
            System.arraycopy(other.badRow, 0, badRow, 0, RECORD_SIZE);
            chartCount = other.chartCount;
            System.arraycopy(other.chart, 0, chart, 0, CHART_SIZE);
        }

        int width() {
            return upper - lower;
        }

        int resultOf(int measured) {
            if (measured > upper) {
                return TO_BE_FILED;
            }
            return measured < lower ? THROWN_AWAY : GOOD;
        }

        boolean isNearLimit(int measured, int step) {
            return Math.abs(measured - lower) < step || Math.abs(measured - upper) < step;
        }

        void takeResult(int measured, boolean bad) {
            latestUnseen = false;
            chartCount = append(chart, chartCount, measured);
            recordCount = append(badRow, recordCount, bad ? 1 : 0);
            int next = mannerAfter(bad);
            if (next != manner) {
                manner = next;
                recordCount = 0;
            }
        }

        int mannerAfter(boolean bad) {
            if (manner == PLAINLY) {
                if (badOfLatest(LATEST_RESULTS) >= 2) {
                    return STRICTLY;
                }
                return goodAtEnd() >= RECORD_SIZE ? LOOSELY : PLAINLY;
            }
            if (manner == STRICTLY) {
                return goodAtEnd() >= LATEST_RESULTS ? PLAINLY : STRICTLY;
            }
            return bad ? PLAINLY : LOOSELY;
        }

        int badOfLatest(int most) {
            int bad = 0;
            for (int i = Math.max(0, recordCount - most); i < recordCount; i++) {
                bad += entry(badRow, i);
            }
            return bad;
        }

        int goodAtEnd() {
            int good = 0;
            while (good < recordCount && entry(badRow, recordCount - 1 - good) == 0) {
                good++;
            }
            return good;
        }

        /** The deviation with so many behind it in the chart. */
        int fromEnd(int behind) {
            return entry(chart, chartCount - 1 - behind);
        }

        int signals() {
            if (chartCount <= 0) {
                return 0;
            }
            int sum = 0;
            if (fromEnd(0) > upper || fromEnd(0) < lower) {
                sum += 1;
            }
            if (chartCount >= 6 && goesOneWay(6)) {
                sum += 2;
            }
            if (chartCount >= 7 && isOnOneSide(7)) {
                sum += 4;
            }
            if (chartCount >= 3 && isFarOut(3)) {
                sum += 8;
            }
            return sum;
        }

        boolean goesOneWay(int latest) {
            int greater = 0;
            int less = 0;
            for (int i = 0; i < latest - 1; i++) {
                int step = Integer.compare(fromEnd(i), fromEnd(i + 1));
                greater += step > 0 ? 1 : 0;
                less += step < 0 ? 1 : 0;
            }
            return greater == latest - 1 || less == latest - 1;
        }

        boolean isOnOneSide(int latest) {
            int above = 0;
            int below = 0;
            for (int i = 0; i < latest; i++) {
                above += fromEnd(i) > 0 ? 1 : 0;
                below += fromEnd(i) < 0 ? 1 : 0;
            }
            return above == latest || below == latest;
        }

        boolean isFarOut(int latest) {
            int above = 0;
            int below = 0;
            for (int i = 0; i < latest; i++) {
                above += fromEnd(i) * 3 > upper * 2 ? 1 : 0;
                below += fromEnd(i) * 3 < lower * 2 ? 1 : 0;
            }
            return above >= 2 || below >= 2;
        }

        int middleInOrder() {
            int[] row = chart.clone();
            sort(row, chartCount);
            return entry(row, chartCount / 2);
        }

        static void sort(int[] row, int count) {
            for (int i = 1; i < count && i < row.length; i++) {
                int moved = row[i];
                int place = i;
                while (place > 0 && row[place - 1] > moved) {
                    row[place] = row[place - 1];
                    place--;
                }
                row[place] = moved;
            }
        }

        int middleLeft() {
            int[] row = chart.clone();
            int left = chartCount;
            while (left > 2) {
                take(row, placeOfLeast(row, left), left);
                take(row, placeOfGreatest(row, left - 1), left - 1);
                left -= 2;
            }
            return entry(row, placeOfGreatest(row, left));
        }

        static void take(int[] row, int place, int count) {
            for (int i = Math.max(0, place); i < count - 1 && i < row.length - 1; i++) {
                row[i] = row[i + 1];
            }
        }

        static int placeOfLeast(int[] row, int count) {
            int least = 0;
            for (int i = 1; i < count; i++) {
                if (entry(row, i) < entry(row, least)) {
                    least = i;
                }
            }
            return least;
        }

        static int placeOfGreatest(int[] row, int count) {
            int greatest = 0;
            for (int i = 1; i < count; i++) {
                if (entry(row, i) > entry(row, greatest)) {
                    greatest = i;
                }
            }
            return greatest;
        }

        int spread() {
            int greatest = entry(chart, placeOfGreatest(chart, chartCount));
            return greatest - entry(chart, placeOfLeast(chart, chartCount));
        }

        int chartSum() {
            int sum = 0;
            for (int i = 0; i < chartCount; i++) {
                sum += entry(chart, i);
            }
            return sum;
        }

        int throwOutOfChart(int tolerance) {
            int before = chartCount;
            int middle = middleInOrder();
            int kept = 0;
            for (int i = 0; i < before && i < chart.length; i++) {
                if (Math.abs(chart[i] - middle) <= tolerance) {
                    chart[kept] = chart[i];
                    kept++;
                }
            }
            chartCount = kept;
            return before - kept;
        }
    }

    /** The types, the pieces, the tolerance and the accounts. */
    private static final class Bench {
        final PieceType[] types = new PieceType[MOST_TYPES];
        int typeCount;
        final Pieces waiting = new Pieces();
        final Pieces filing = new Pieces();
        int tolerance = 10;
        int brought;
        int good;
        int thrownAway;
        int unseen;
        int doubts;
        int results;

        Bench() {
            for (int i = 0; i < types.length; i++) {
                types[i] = new PieceType();
            }
        }

        void copyFrom(Bench other) {
            typeCount = other.typeCount;
            for (int i = 0; i < typeCount && i < types.length; i++) {
                types[i].copyFrom(other.types[i]);
            }
            waiting.copyFrom(other.waiting);
            filing.copyFrom(other.filing);
            tolerance = other.tolerance;
            brought = other.brought;
            good = other.good;
            thrownAway = other.thrownAway;
            unseen = other.unseen;
            doubts = other.doubts;
            results = other.results;
        }

        boolean hasType(int type) {
            return type >= 0 && type < typeCount && type < types.length;
        }

        int putType(int length, int lower, int upper, int material) {
            int number = typeCount;
            if (number < types.length) {
                types[number].begin(length, lower, upper, material);
                typeCount++;
            }
            return number;
        }

        /** The type of the first piece of a queue that has one. */
        PieceType typeOfFirst(Pieces queue) {
            int type = queue.typeOfPiece(0);
            return types[hasType(type) ? type : 0];
        }

        int refusalToBring(int type, int deviation) {
            if (!hasType(type) || !inRange(deviation, -200, 200) || types[type].length + deviation < 1) {
                return WRONG_ARGUMENT;
            }
            return waiting.count >= MOST_ON_BENCH ? WRONG_STATE : POSSIBLE;
        }

        int bringPiece(int type, int deviation) {
            waiting.putLast(type, deviation, false);
            brought++;
            return waiting.count;
        }

        int reasonNotToJudge(Drawer drawer, Tool tool) {
            if (waiting.count <= 0) {
                return 1;
            }
            if (tool.dueOn(drawer.day)) {
                return 2;
            }
            PieceType first = typeOfFirst(waiting);
            if (5 * tool.step > first.width()) {
                return 3;
            }
            int length = first.length + waiting.firstDeviation();
            return drawer.reading(tool, first.material, length) == UNREADABLE ? 4 : 0;
        }

        int refusalToJudge(Drawer drawer, int tool) {
            if (!drawer.hasTool(tool)) {
                return WRONG_ARGUMENT;
            }
            return reasonNotToJudge(drawer, drawer.tools[tool]) == 0 ? POSSIBLE : WRONG_STATE;
        }

        int measuredWith(Drawer drawer, Tool tool) {
            PieceType first = typeOfFirst(waiting);
            int length = first.length + waiting.firstDeviation();
            return drawer.reading(tool, first.material, length) - tool.known - first.length;
        }

        int outcomeOf(int measured, Tool tool) {
            PieceType first = typeOfFirst(waiting);
            if (!waiting.doubtedPiece(0) && first.isNearLimit(measured, tool.step)) {
                return DOUBTED;
            }
            return first.resultOf(measured);
        }

        int judgeFirst(Drawer drawer, int number) {
            if (!drawer.hasTool(number)) {
                return DOUBTED;
            }
            Tool tool = drawer.tools[number];
            int measured = measuredWith(drawer, tool);
            int outcome = outcomeOf(measured, tool);
            PieceType judged = typeOfFirst(waiting);
            tool.useOn(judged.material);
            moveFirst(outcome);
            if (outcome != DOUBTED) {
                results++;
                judged.takeResult(measured, outcome != GOOD);
            }
            return outcome;
        }

        private void moveFirst(int outcome) {
            int type = waiting.typeOfPiece(0);
            int deviation = waiting.firstDeviation();
            waiting.dropFirst();
            if (outcome == GOOD) {
                good++;
            } else if (outcome == TO_BE_FILED) {
                filing.putLast(type, deviation, false);
            } else if (outcome == THROWN_AWAY) {
                thrownAway++;
            } else {
                waiting.putLast(type, deviation, true);
                doubts++;
            }
        }

        int refusalToFile(int amount) {
            if (!inRange(amount, 1, 99)) {
                return WRONG_ARGUMENT;
            }
            if (filing.count <= 0 || waiting.count >= MOST_ON_BENCH) {
                return WRONG_STATE;
            }
            int length = typeOfFirst(filing).length + filing.firstDeviation() - amount;
            return length < 1 ? WRONG_STATE : POSSIBLE;
        }

        int fileFirst(int amount) {
            int deviation = filing.firstDeviation() - amount;
            waiting.putLast(filing.typeOfPiece(0), deviation, false);
            filing.dropFirst();
            return deviation;
        }

        int reasonNotToPass() {
            if (waiting.count <= 0) {
                return 1;
            }
            PieceType first = typeOfFirst(waiting);
            if (first.manner != LOOSELY) {
                return 2;
            }
            return first.latestUnseen ? 3 : 0;
        }

        int refusalToPass() {
            return reasonNotToPass() == 0 ? POSSIBLE : WRONG_STATE;
        }

        int passFirst() {
            int type = waiting.typeOfPiece(0);
            typeOfFirst(waiting).latestUnseen = true;
            waiting.dropFirst();
            unseen++;
            return type;
        }
    }

    /** Everything that the history and the snapshot hold. */
    private static final class State {
        final Drawer drawer = new Drawer();
        final Bench bench = new Bench();

        void copyFrom(State other) {
            drawer.copyFrom(other.drawer);
            bench.copyFrom(other.bench);
        }

        /** The number of the best tool for the first piece, -1 if there is none. */
        int bestToolToJudge() {
            int best = -1;
            int leastStep = 0;
            for (int i = 0; i < drawer.toolCount && i < drawer.tools.length; i++) {
                Tool tool = drawer.tools[i];
                boolean finer = best < 0 || tool.step < leastStep;
                if (finer && bench.reasonNotToJudge(drawer, tool) == 0) {
                    best = i;
                    leastStep = tool.step;
                }
            }
            return best;
        }

        int refusalOf(Order order) {
            switch (order.kind) {
                case ORDER_MEASURE:
                    return drawer.refusalToMeasure(order.first, STEEL, order.second);
                case ORDER_CALIBRATE:
                    return drawer.refusalToCalibrate(order.first, order.second);
                case ORDER_BRING:
                    return bench.refusalToBring(order.first, order.second);
                case ORDER_JUDGE:
                    return bench.refusalToJudge(drawer, order.first);
                case ORDER_FILE:
                    return bench.refusalToFile(order.first);
                case ORDER_PASS:
                    return bench.refusalToPass();
                default:
                    return drawer.refusalToEndDay();
            }
        }

        void perform(Order order) {
            switch (order.kind) {
                case ORDER_MEASURE:
                    drawer.measureLength(order.first, STEEL, order.second);
                    break;
                case ORDER_CALIBRATE:
                    drawer.calibrateTool(order.first, order.second);
                    break;
                case ORDER_BRING:
                    bench.bringPiece(order.first, order.second);
                    break;
                case ORDER_JUDGE:
                    bench.judgeFirst(drawer, order.first);
                    break;
                case ORDER_FILE:
                    bench.fileFirst(order.first);
                    break;
                case ORDER_PASS:
                    bench.passFirst();
                    break;
                case ORDER_END_DAY:
                    drawer.day++;
                    break;
                default:
                    break;
            }
        }
    }

    /** One order of a text, as it is read from its first character on. */
    private static final class Order {
        int kind;
        int first;
        int second;
        /** The position behind what was read. */
        int end;
        /** At which of its characters it breaks off. */
        int brokenAt;
        private int readNumber;

        void readFrom(char[] text, int length, int start) {
            first = 0;
            second = 0;
            end = start;
            brokenAt = NOT_BROKEN;
            if (!readWhole(text, length)) {
                brokenAt = end - start;
            }
        }

        private boolean readWhole(char[] text, int length) {
            kind = end < length ? ORDER_LETTERS.indexOf(text[end]) : -1;
            if (kind < 0) {
                return false;
            }
            end++;
            int numbers = entry(ORDER_NUMBERS, kind);
            if (numbers > 0) {
                if (!readDigits(text, length)) {
                    return false;
                }
                first = readNumber;
            }
            if (numbers > 1) {
                if (!readSign(text, length, ',') || !readDigits(text, length)) {
                    return false;
                }
                second = readNumber;
            }
            return readSign(text, length, ';');
        }

        private boolean readSign(char[] text, int length, char sign) {
            if (end >= length || text[end] != sign) {
                return false;
            }
            end++;
            return true;
        }

        private boolean readDigits(char[] text, int length) {
            readNumber = 0;
            int digits = 0;
            while (digits < MOST_DIGITS && end < length && inRange(text[end], '0', '9')) {
                readNumber = readNumber * 10 + (text[end] - '0');
                digits++;
                end++;
            }
            return digits > 0;
        }
    }

    /** Does a text on a state of its own, up to the text's end or its fault. */
    private static final class Trial {
        State state = new State();
        private final Order order = new Order();
        int orders;
        int position;
        int reason;
        int cause;

        void run(State from, char[] text, int typed) {
            int length = Math.min(typed, text.length);
            state.copyFrom(from);
            orders = 0;
            position = 0;
            reason = NO_FAULT;
            cause = 0;
            // Each order that is done is longer than nothing.
            for (int n = 0; n < MOST_CHARACTERS && position < length && reason == NO_FAULT; n++) {
                order.readFrom(text, length, position);
                if (order.brokenAt != NOT_BROKEN) {
                    setFault(FAULT_OF_FORM, order.brokenAt);
                    continue;
                }
                int refusal = state.refusalOf(order);
                if (refusal != POSSIBLE) {
                    setFault(FAULT_OF_CALL, refusal);
                    continue;
                }
                state.perform(order);
                orders++;
                position = order.end;
            }
        }

        private void setFault(int why, int by) {
            reason = why;
            cause = by;
        }
    }
}
