/** The sentences on tools, readings and blocks: promises 2 to 7 and 15 to 37, and their terms. */
final class DrawerSentences {
    private static final int[] GREATEST = {15000, 15000, 15000, 2500, 2500};
    private static final int[] APART = {100, 100, 100, 50, 100};
    private static final int[] LINES = {10, 20, 50, 50, 100};
    private static final int[] STEPS = {10, 5, 2, 1, 1};

    private DrawerSentences() {
    }

    static void test() {
        warmth();
        numbersOfTools();
        kinds();
        shows();
        cannotBeRead();
        nearest();
        uses();
        wear();
        due();
        blocks();
        stacks();
        calibration();
        addTool();
        addBlock();
        setWarmth();
        measure();
        calibrate();
        endDay();
        looksAtTools();
        isDue();
        looksAtWarmth();
        looksAtReadings();
        looksAtBlocks();
        looksAtStacks();
    }

    // ---- the terms

    private static void warmth() {
        Sentences.term("The warmth is -10 to 50 (20 at first).", () -> {
            VernierDrawers x = Made.empty();
            Check.is("at first", 20, x::warmth);
            x.setWarmth(-10);
            Check.is("the least", -10, x::warmth);
            x.setWarmth(50);
            Check.is("the greatest", 50, x::warmth);
            Refused.numbers("warmth", Made::busy, VernierDrawers::setWarmth, -11, 51);
        });
        Sentences.term("Materials are 0 steel, 1 brass and 2 aluminium, with the numbers 12, 19 and 23.", () -> {
            VernierDrawers x = Made.empty();
            x.setWarmth(50);
            stretch(x, 0, 13888, 4);
            stretch(x, 0, 13889, 5);
            stretch(x, 1, 14035, 7);
            stretch(x, 1, 14036, 8);
            stretch(x, 2, 1449, 0);
            stretch(x, 2, 1450, 1);
            Refused.numbers("material", Made::busy, (y, material) -> y.stretchOf(material, 0), -1, 3);
        });
        Sentences.term("The stretch of a length of a material is the length times the number times the warmth less 20,"
                + " divided by 1000000, cut off towards 0.", () -> {
            VernierDrawers x = Made.empty();
            stretch(x, 2, 15000, 0);
            x.setWarmth(50);
            stretch(x, 0, 15000, 5);
            stretch(x, 1, 15000, 8);
            stretch(x, 2, 15000, 10);
            stretch(x, 2, 0, 0);
            x.setWarmth(40);
            stretch(x, 0, 12500, 3);
            stretch(x, 0, 12499, 2);
            x.setWarmth(49);
            stretch(x, 2, 5997, 3);
            x.setWarmth(21);
            stretch(x, 2, 15000, 0);
            x.setWarmth(0);
            stretch(x, 0, 12500, -3);
            stretch(x, 0, 12499, -2);
            x.setWarmth(-10);
            stretch(x, 0, 15000, -5);
            stretch(x, 1, 15000, -8);
            stretch(x, 2, 15000, -10);
            stretch(x, 2, 1450, -1);
            stretch(x, 2, 1449, 0);
        });
    }

    private static void stretch(VernierDrawers x, int material, int length, int due) {
        Check.is("at " + x.warmth() + " of " + length + " of " + material, due, () -> x.stretchOf(material, length));
    }

    private static void numbersOfTools() {
        Sentences.term("At most 6 tools are numbered from 0 in the order in which they came.", () -> {
            VernierDrawers x = Made.empty();
            for (int i = 0; i < 6; i++) {
                int tool = i;
                Check.is("tool " + i, i, () -> x.addTool(4 - tool % 5, 0));
            }
            for (int i = 0; i < 6; i++) {
                int tool = i;
                Check.is("the kind of tool " + i, 4 - i % 5, () -> x.kindOf(tool));
            }
            Check.is("how many", 6, x::tools);
            Refused.state("a seventh", Made::full, y -> y.addTool(0, 0));
        });
    }

    private static void kinds() {
        Sentences.term("A tool is of a kind: 0 a calliper with 10 lines, 1 one with 20 lines, 2 one with 50 lines: each of"
                + " these with marks 100 apart, up to 15000; 3 a screw with 50 lines, with marks 50 apart, 4 one with 100"
                + " lines, with marks 100 apart: both up to 2500.", () -> {
            for (int kind = 0; kind < 5; kind++) {
                VernierDrawers x = Made.tool(kind, 0);
                String what = "kind " + kind + ", ";
                reads(x, what + "the last line", APART[kind] - STEPS[kind], APART[kind] - STEPS[kind], 0, LINES[kind] - 1);
                reads(x, what + "the next mark", APART[kind], APART[kind], 1, 0);
                reads(x, what + "the greatest mark", GREATEST[kind], GREATEST[kind], GREATEST[kind] / APART[kind], 0);
                int k = kind;
                Refused.element(what + "above it", () -> Made.tool(k, 1), y -> y.readingFor(0, 0, GREATEST[k]));
            }
        });
        Sentences.term("The step of a tool is how far its marks are apart, divided by how many lines it has.", () -> {
            for (int kind = 0; kind < 5; kind++) {
                VernierDrawers x = Made.tool(kind, 0);
                Check.is("kind " + kind, STEPS[kind], () -> x.stepOf(0));
            }
        });
        Sentences.term("A tool has an error at zero, -30 to 30, a wear (0 at first), and a known error (0 at first).", () -> {
            VernierDrawers x = Made.tool(4, -30);
            Check.is("the least error", 70, () -> x.readingFor(0, 0, 100));
            x.addTool(4, 30);
            Check.is("the greatest error", 130, () -> x.readingFor(1, 0, 100));
            Check.is("the wear", 0, () -> x.wearOf(1));
            Check.is("the known error", 0, () -> x.knownError(1));
            Refused.numbers("error", Made::busy, (y, error) -> y.addTool(4, error), -31, 31);
        });
    }

    private static void reads(VernierDrawers x, String what, int length, int reading, int mark, int line) {
        Check.is(what + ": the reading of " + length, reading, () -> x.readingFor(0, 0, length));
        Check.is(what + ": looking at " + length, reading, () -> x.readingByLooking(0, 0, length));
        Check.is(what + ": the mark at " + length, mark, () -> x.markFor(0, 0, length));
        Check.is(what + ": the line at " + length, line, () -> x.lineFor(0, 0, length));
    }

    private static void shows() {
        Sentences.term("What a tool shows of a length of a material is: the length, its stretch, and the error at zero,"
                + " together, less the stretch of this length of steel, and less the wear.", () -> {
            VernierDrawers x = Made.tool(4, 10);
            Check.is("as warm as at first", 2450, () -> x.readingFor(0, 2, 2440));
            x.setWarmth(50);
            Check.is("steel", 2450, () -> x.readingFor(0, 0, 2440));
            Check.is("brass, 1.39 and 0.87", 2451, () -> x.readingFor(0, 1, 2440));
            Check.is("aluminium, 1.68 and 0.87", 2451, () -> x.readingFor(0, 2, 2440));
            Check.is("brass, 0.99 and 0.63", 1760, () -> x.readingFor(0, 1, 1750));
            x.setWarmth(-10);
            Check.is("brass in the cold", 2449, () -> x.readingFor(0, 1, 2440));
            for (int i = 0; i < 7; i++) {
                x.measure(0, 0, 100);
            }
            Check.is("worn by 1", 2448, () -> x.readingFor(0, 1, 2440));
            VernierDrawers y = Made.tool(2, 0);
            y.setWarmth(50);
            Check.is("a long one, 9.66 and 5.04", 14004, () -> y.readingFor(0, 2, 14000));
        });
    }

    private static void cannotBeRead() {
        Sentences.term("It cannot be read if that is below 0, or above the greatest mark.", () -> {
            Made low = () -> Made.tool(4, -30);
            Check.is("shows 0", 0, () -> low.make().readingFor(0, 0, 30));
            Refused.element("shows -1", low, x -> x.readingFor(0, 0, 29));
            Refused.state("measures -1", low, x -> x.measure(0, 0, 29));
            Made coarse = () -> Made.tool(0, -1);
            Check.is("shows 0, coarsely", 0, () -> coarse.make().readingFor(0, 0, 1));
            Refused.element("shows -1, though 0 were near", coarse, x -> x.readingFor(0, 0, 0));
            for (int kind = 0; kind < 5; kind++) {
                int k = kind;
                Made high = () -> Made.tool(k, 1);
                Check.is("shows the greatest mark", GREATEST[k], () -> high.make().readingFor(0, 0, GREATEST[k] - 1));
                Refused.element("shows 1 more, kind " + k, high, x -> x.readingFor(0, 0, GREATEST[k]));
                Refused.state("measures 1 more, kind " + k, high, x -> x.measure(0, 0, GREATEST[k]));
            }
        });
    }

    private static void nearest() {
        Sentences.term("Its reading is the multiple of the step that is nearest to what it shows, of two that are as near"
                + " the greater one.", () -> {
            int[][] steps = {{0, 4, 0}, {0, 5, 10}, {0, 6, 10}, {0, 14, 10}, {0, 15, 20}, {0, 14995, 15000},
                {1, 2, 0}, {1, 3, 5}, {1, 7, 5}, {1, 8, 10}, {2, 0, 0}, {2, 1, 2}, {2, 2, 2}, {2, 3, 4}, {2, 14999, 15000},
                {3, 1, 1}, {3, 2499, 2499}, {4, 1, 1}, {4, 2499, 2499}};
            for (int[] s : steps) {
                VernierDrawers x = Made.tool(s[0], 0);
                Check.is("kind " + s[0] + " at " + s[1], s[2], () -> x.readingFor(0, 0, s[1]));
                Check.is("kind " + s[0] + " looked at, " + s[1], s[2], () -> x.readingByLooking(0, 0, s[1]));
            }
        });
        Sentences.term("The mark of a reading is how often the distance of marks goes into it, rounded down; its line is what"
                + " is left, divided by the step.", () -> {
            reads(Made.tool(0, 0), "no mark", 0, 0, 0, 0);
            reads(Made.tool(0, 0), "the last line", 194, 190, 1, 9);
            reads(Made.tool(0, 0), "a line of the next mark", 195, 200, 2, 0);
            reads(Made.tool(1, 0), "the last line", 197, 195, 1, 19);
            reads(Made.tool(1, 0), "a line of the next mark", 198, 200, 2, 0);
            reads(Made.tool(2, 0), "the last line", 198, 198, 1, 49);
            reads(Made.tool(2, 0), "a line of the next mark", 199, 200, 2, 0);
            reads(Made.tool(3, 0), "the last line", 99, 99, 1, 49);
            reads(Made.tool(3, 0), "a line of the next mark", 100, 100, 2, 0);
            reads(Made.tool(4, 0), "the last line", 199, 199, 1, 99);
            reads(Made.tool(4, 0), "a line of the next mark", 200, 200, 2, 0);
        });
    }

    private static void uses() {
        Sentences.term("Each time that a tool is read, by measuring, calibrating or judging, it is used,", () -> {
            VernierDrawers x = Made.busy();
            Check.is("calibrated, judged 5 times, measured", 7, () -> x.usesOf(0));
            Check.is("the other one is not", 0, () -> x.usesOf(1));
            x.measure(1, 0, 100);
            Check.is("measured", 1, () -> x.usesOf(1));
            x.calibrate(1, 200);
            Check.is("calibrated", 2, () -> x.usesOf(1));
            x.readingFor(1, 0, 100);
            x.readingByLooking(1, 0, 100);
            x.markFor(1, 0, 100);
            x.lineFor(1, 0, 100);
            x.offBy(1, 0, 100);
            x.wouldJudge(0);
            x.bestTool();
            Check.is("asked", 2, () -> x.usesOf(1));
            Check.is("asked what it would tell", 7, () -> x.usesOf(0));
            Refused.state("measured in vain", Made::busy, y -> y.measure(0, 0, 2500));
        });
        Sentences.term("and rubbed by 3 of steel, 2 of brass, 1 of aluminium, behind the reading;", () -> {
            int[] untilWorn = {7, 10, 20};
            for (int material = 0; material < 3; material++) {
                VernierDrawers x = Made.tool(4, 9);
                int m = material;
                for (int i = 1; i < untilWorn[m]; i++) {
                    Check.is("material " + m + ", use " + i, 109, () -> x.measure(0, m, 100));
                }
                Check.is("material " + m + ", not worn", 0, () -> x.wearOf(0));
                Check.is("material " + m + ", behind the reading", 109, () -> x.measure(0, m, 100));
                Check.is("material " + m + ", worn", 1, () -> x.wearOf(0));
                Check.is("material " + m + ", the next reading", 108, () -> x.measure(0, m, 100));
            }
        });
    }

    private static void wear() {
        Sentences.term("when it has been rubbed by 20 or more, its wear is 1 more", () -> {
            VernierDrawers x = Made.tool(4, 0);
            measure(x, 2, 19);
            Check.is("rubbed by 19", 0, () -> x.wearOf(0));
            measure(x, 2, 1);
            Check.is("rubbed by 20", 1, () -> x.wearOf(0));
            VernierDrawers y = Made.tool(4, 0);
            measure(y, 0, 6);
            measure(y, 2, 1);
            Check.is("rubbed by 19, of two materials", 0, () -> y.wearOf(0));
            measure(y, 0, 1);
            Check.is("rubbed by 22", 1, () -> y.wearOf(0));
        });
        Sentences.term("(but 40 at most)", () -> {
            VernierDrawers x = Made.tool(4, 30);
            Check.write(x, "m0,99;".repeat(10));
            Check.playTimes(x, 26);
            Check.is("rubbed by 780", 39, () -> x.wearOf(0));
            measure(x, 0, 6);
            Check.is("rubbed by 798", 39, () -> x.wearOf(0));
            measure(x, 0, 1);
            Check.is("rubbed by 801", 40, () -> x.wearOf(0));
            measure(x, 0, 7);
            Check.is("rubbed by 822", 40, () -> x.wearOf(0));
            Check.playTimes(x, 9);
            Check.is("rubbed by 1092", 40, () -> x.wearOf(0));
            Check.is("shows 40 less", 90, () -> x.readingFor(0, 0, 100));
        });
        Sentences.term(", and the rubbing 20 less.", () -> {
            VernierDrawers x = Made.tool(4, 0);
            measure(x, 0, 19);
            Check.is("rubbed by 57", 2, () -> x.wearOf(0));
            measure(x, 0, 1);
            Check.is("rubbed by 60", 3, () -> x.wearOf(0));
            measure(x, 2, 19);
            Check.is("rubbed by 79", 3, () -> x.wearOf(0));
            measure(x, 2, 1);
            Check.is("rubbed by 80", 4, () -> x.wearOf(0));
        });
    }

    private static void measure(VernierDrawers x, int material, int times) {
        for (int i = 0; i < times; i++) {
            x.measure(0, material, 100);
        }
    }

    private static void endDays(VernierDrawers x, int days) {
        for (int i = 0; i < days; i++) {
            x.endDay();
        }
    }

    private static void isDue(String what, boolean due, VernierDrawers x, int tool) {
        Check.is(what, Check.of(due), () -> Check.of(x.isDue(tool)));
    }

    private static void due() {
        Sentences.term("A tool is due if it was used 30 times or more,", () -> {
            VernierDrawers x = Made.tool(4, 0);
            measure(x, 2, 29);
            isDue("29 times", false, x, 0);
            measure(x, 2, 1);
            isDue("30 times", true, x, 0);
            measure(x, 2, 1);
            isDue("31 times", true, x, 0);
        });
        Sentences.term("or 10 days or more have ended,", () -> {
            VernierDrawers x = Made.tool(4, 0);
            endDays(x, 9);
            isDue("9 days", false, x, 0);
            endDays(x, 1);
            isDue("10 days", true, x, 0);
            endDays(x, 1);
            isDue("11 days", true, x, 0);
        });
        Sentences.term("since it came, or was calibrated the latest", () -> {
            VernierDrawers x = Made.blocks(100);
            endDays(x, 7);
            x.addTool(4, 0);
            endDays(x, 3);
            isDue("came 10 days ago", true, x, 0);
            isDue("came 3 days ago", false, x, 1);
            x.calibrate(0, 100);
            isDue("calibrated today", false, x, 0);
            endDays(x, 7);
            isDue("calibrated 7 days ago", false, x, 0);
            isDue("came 10 days ago, too", true, x, 1);
            endDays(x, 2);
            isDue("calibrated 9 days ago", false, x, 0);
            endDays(x, 1);
            isDue("calibrated 10 days ago", true, x, 0);
            x.calibrate(0, 100);
            measure(x, 2, 29);
            isDue("29 times since then", false, x, 0);
            measure(x, 2, 1);
            isDue("30 times since then", true, x, 0);
            x.calibrate(0, 100);
            isDue("calibrated behind 30 times", false, x, 0);
        });
        Sentences.term("(the use by that not counted).", () -> {
            VernierDrawers x = Made.blocks(100);
            x.calibrate(0, 100);
            Check.is("30 uses are left", 30, () -> x.usesLeft(0));
            measure(x, 2, 29);
            isDue("29 times and the calibrating", false, x, 0);
            Check.is("all uses", 30, () -> x.usesOf(0));
            measure(x, 2, 1);
            isDue("30 times and the calibrating", true, x, 0);
        });
    }

    private static void blocks() {
        Sentences.term("There are at most 10 blocks of steel, numbered from 0 in the order in which they came, each with a"
                + " length, 1 to 5000, and an error, -3 to 3.", () -> {
            VernierDrawers x = Made.empty();
            for (int i = 0; i < 10; i++) {
                int length = i == 0 ? 1 : i == 9 ? 5000 : 7 * i;
                int error = i % 7 - 3;
                Check.is("block " + i, i, () -> x.addBlock(length, error));
            }
            Check.is("the least length", 1, () -> x.blockLength(0));
            Check.is("the greatest length", 5000, () -> x.blockLength(9));
            Check.is("the fifth length", 28, () -> x.blockLength(4));
            Check.is("the least error", -3, () -> x.blockError(0));
            Check.is("the greatest error", 3, () -> x.blockError(6));
            Refused.state("an eleventh", Made::full, y -> y.addBlock(1, 0));
            Refused.numbers("length", Made::busy, (y, length) -> y.addBlock(length, 0), 0, 5001, -1);
            Refused.numbers("error", Made::busy, (y, error) -> y.addBlock(1, error), -4, 4);
        });
    }

    private static void stack(Made made, int length, int set, int truly) {
        String what = "the stack of " + length;
        Check.is(what + ", how few", Integer.bitCount(set), () -> made.make().fewestBlocks(length));
        Check.is(what + ", tried", Integer.bitCount(set), () -> made.make().fewestByTrying(length));
        Check.is(what, set, () -> made.make().stackFor(length));
        Check.is(what + ", its true length", truly, () -> made.make().trueLength(length));
    }

    private static void noStack(Made made, int length) {
        String what = "no stack of " + length;
        Refused.element(what + ", how few", made, x -> x.fewestBlocks(length));
        Refused.element(what + ", tried", made, x -> x.fewestByTrying(length));
        Refused.element(what, made, x -> x.stackFor(length));
        Refused.element(what + ", its true length", made, x -> x.trueLength(length));
        Refused.state(what + ", calibrated", made, x -> x.calibrate(0, length));
    }

    private static void stacks() {
        Sentences.term("A length can be stacked, if some blocks, 1 to 5, each of them once, have it as the sum of their"
                + " lengths.", () -> {
            Made six = () -> Made.blocks(1, 2, 4, 8, 16, 32);
            stack(six, 1, 1, 1);
            stack(six, 32, 32, 32);
            stack(six, 31, 31, 33);
            stack(six, 62, 62, 64);
            noStack(six, 63);
            Made two = () -> Made.blocks(100, 300);
            stack(two, 400, 3, 400);
            noStack(two, 200);
            noStack(two, 600);
            noStack(two, 99);
            noStack(two, 401);
            noStack(() -> Made.tool(4, 0), 1);
        });
        Sentences.term("Its stack are the fewest such blocks, of several sets that with the least number (bit b for the block"
                + " b).", () -> {
            Made made = () -> Made.blocks(100, 200, 300, 300, 400, 100);
            stack(made, 300, 4, 300);
            stack(made, 100, 1, 100);
            stack(made, 400, 16, 400);
            stack(made, 500, 6, 500);
            stack(made, 600, 12, 600);
            stack(made, 700, 20, 700);
            stack(made, 900, 22, 901);
            stack(made, 1300, 31, 1302);
        });
    }

    private static void calibration() {
        Sentences.term("A stack is truly as long as the lengths and the errors of its blocks, together, and half of how many"
                + " they are less 1, rounded down.", () -> {
            Made five = () -> Made.blocks(1, 2, 4, 8, 16);
            stack(five, 1, 1, 1);
            stack(five, 3, 3, 3);
            stack(five, 7, 7, 8);
            stack(five, 15, 15, 16);
            stack(five, 31, 31, 33);
            Made errors = () -> {
                VernierDrawers x = Made.tool(4, 20);
                x.addBlock(100, -3);
                x.addBlock(200, 3);
                x.addBlock(400, 3);
                return x;
            };
            stack(errors, 100, 1, 97);
            stack(errors, 300, 3, 300);
            stack(errors, 600, 6, 606);
            stack(errors, 700, 7, 704);
        });
        Sentences.term("To calibrate a tool with a length means to read the stack of it, by its true length; the known error"
                + " becomes the reading less the length.", () -> {
            VernierDrawers x = Made.tool(4, -30);
            x.addBlock(100, -3);
            x.addBlock(33, -3);
            x.addBlock(32, -3);
            x.addTool(4, 30);
            x.addTool(0, 0);
            Check.is("by the least errors", -33, () -> x.calibrate(0, 100));
            Check.is("known", -33, () -> x.knownError(0));
            Check.is("shows 0", -33, () -> x.calibrate(0, 33));
            Check.is("the other one is not known", 0, () -> x.knownError(1));
            Check.is("by the greatest error at zero", 27, () -> x.calibrate(1, 100));
            Check.is("coarsely, 97", 0, () -> x.calibrate(2, 100));
            Check.is("coarsely, 30", -3, () -> x.calibrate(2, 33));
            Made low = () -> {
                VernierDrawers y = Made.tool(4, -30);
                y.addBlock(32, -3);
                return y;
            };
            Refused.state("shows -1", low, y -> y.calibrate(0, 32));
            VernierDrawers warm = Made.blocks(2500);
            warm.setWarmth(50);
            Check.is("of steel, as warm as the tool, to the greatest mark", 0, () -> warm.calibrate(0, 2500));
        });
        Sentences.term("Each block of the stack is used by that; with each 10th use of a block its error is 1 less, behind"
                + " the reading (but -9 at least).", () -> {
            VernierDrawers x = Made.blocks(100, 200, 400);
            for (int i = 0; i < 9; i++) {
                x.calibrate(0, 300);
            }
            Check.is("used 9 times", 0, () -> x.blockError(0));
            Check.is("behind the 10th reading", -1, () -> x.calibrate(0, 300));
            Check.is("used 10 times", -1, () -> x.blockError(0));
            Check.is("used 10 times, too", -1, () -> x.blockError(1));
            Check.is("not used", 0, () -> x.blockError(2));
            Check.is("by the true length, and the wear of 1", -2, () -> x.calibrate(0, 100));
            for (int i = 11; i < 19; i++) {
                x.calibrate(0, 100);
            }
            Check.is("used 19 times", -1, () -> x.blockError(0));
            x.calibrate(0, 100);
            Check.is("used 20 times", -2, () -> x.blockError(0));
            Check.is("used 10 times still", -1, () -> x.blockError(1));
            blockErrors(-3, 60);
            blockErrors(3, 120);
        });
    }

    private static void blockErrors(int error, int usesUntilLeast) {
        VernierDrawers x = Made.tool(4, 30);
        x.addBlock(99, error);
        Check.write(x, "c0,99;".repeat(10));
        Check.playTimes(x, usesUntilLeast / 10 - 1);
        Check.is("from " + error + ", 10 uses less", -8, () -> x.blockError(0));
        Check.playTimes(x, 1);
        Check.is("from " + error + " to the least", -9, () -> x.blockError(0));
        Check.playTimes(x, 1);
        Check.is("from " + error + ", no less", -9, () -> x.blockError(0));
    }

    // ---- promises 2 to 7

    private static void addTool() {
        Sentences.of(2, "A tool comes.", () -> {
            VernierDrawers x = Made.empty();
            x.addTool(3, 7);
            Check.is("one", 1, x::tools);
            Check.is("its kind", 3, () -> x.kindOf(0));
        });
        Sentences.of(2, "- `kind`: 0 to 4", () -> {
            for (int kind = 0; kind < 5; kind++) {
                VernierDrawers x = Made.tool(kind, 0);
                int due = kind;
                Check.is("kind " + kind, due, () -> x.kindOf(0));
            }
            Refused.numbers("kind", Made::busy, (x, kind) -> x.addTool(kind, 0), -1, 5);
        });
        Sentences.of(2, "- `error`: -30 to 30: its error at zero", () -> {
            Check.is("-30", 0, () -> Made.tool(4, -30).readingFor(0, 0, 30));
            Check.is("30", 30, () -> Made.tool(4, 30).readingFor(0, 0, 0));
            Refused.numbers("error", Made::busy, (x, error) -> x.addTool(0, error), -31, 31);
        });
        Sentences.of(2, "Returns its number.", () -> {
            VernierDrawers x = Made.empty();
            Check.is("the first", 0, () -> x.addTool(0, 0));
            Check.is("the second", 1, () -> x.addTool(0, 0));
        });
        Sentences.of(2, "Throws `IllegalArgumentException` if kind or error is out of range", () -> {
            Refused.argument("both", Made::busy, x -> x.addTool(5, 31));
            Refused.argument("the kind", Made::busy, x -> x.addTool(5, 0));
            Refused.argument("the error", Made::busy, x -> x.addTool(0, -31));
            Refused.argument("though there are 6", Made::full, x -> x.addTool(-1, 0));
        });
        Sentences.of(2, "Throws `IllegalStateException` if there are 6", () -> {
            Refused.state("6", Made::full, x -> x.addTool(4, 30));
            VernierDrawers x = Made.empty();
            for (int i = 0; i < 5; i++) {
                x.addTool(0, 0);
            }
            Check.is("5", 5, () -> x.addTool(0, 0));
        });
    }

    private static void addBlock() {
        Sentences.of(3, "A block comes.", () -> {
            VernierDrawers x = Made.blocks(77);
            Check.is("one", 1, x::blocks);
            Check.is("its length", 77, () -> x.blockLength(0));
        });
        Sentences.of(3, "- `length`: 1 to 5000", () -> {
            Check.is("1", 1, () -> Made.blocks(1).blockLength(0));
            Check.is("5000", 5000, () -> Made.blocks(5000).blockLength(0));
            Refused.numbers("length", Made::busy, (x, length) -> x.addBlock(length, 0), 0, 5001);
        });
        Sentences.of(3, "- `error`: -3 to 3", () -> {
            VernierDrawers x = Made.empty();
            x.addBlock(1, -3);
            x.addBlock(1, 3);
            Check.is("-3", -3, () -> x.blockError(0));
            Check.is("3", 3, () -> x.blockError(1));
            Refused.numbers("error", Made::busy, (y, error) -> y.addBlock(1, error), -4, 4);
        });
        Sentences.of(3, "Returns its number.", () -> {
            VernierDrawers x = Made.empty();
            Check.is("the first", 0, () -> x.addBlock(1, 0));
            Check.is("the second", 1, () -> x.addBlock(1, 0));
        });
        Sentences.of(3, "Throws `IllegalArgumentException` if length or error is out of range", () -> {
            Refused.argument("both", Made::busy, x -> x.addBlock(0, 4));
            Refused.argument("the length", Made::busy, x -> x.addBlock(5001, 0));
            Refused.argument("the error", Made::busy, x -> x.addBlock(1, -4));
            Refused.argument("though there are 10", Made::full, x -> x.addBlock(0, 0));
        });
        Sentences.of(3, "Throws `IllegalStateException` if there are 10", () -> {
            Refused.state("10", Made::full, x -> x.addBlock(5000, 3));
            VernierDrawers x = Made.blocks(1, 1, 1, 1, 1, 1, 1, 1, 1);
            Check.is("9", 9, () -> x.addBlock(1, 0));
        });
    }

    private static void setWarmth() {
        Sentences.of(4, "Sets the warmth.", () -> {
            VernierDrawers x = Made.empty();
            x.setWarmth(0);
            Check.is("0", 0, x::warmth);
        });
        Sentences.of(4, "- `degrees`: -10 to 50", () -> {
            VernierDrawers x = Made.empty();
            x.setWarmth(-10);
            Check.is("-10", -10, x::warmth);
            x.setWarmth(50);
            Check.is("50", 50, x::warmth);
            Refused.numbers("degrees", Made::full, VernierDrawers::setWarmth, -11, 51);
        });
        Sentences.of(4, "Returns what it was.", () -> {
            VernierDrawers x = Made.empty();
            Check.is("at first", 20, () -> x.setWarmth(-10));
            Check.is("then", -10, () -> x.setWarmth(50));
            Check.is("the same", 50, () -> x.setWarmth(50));
        });
        Sentences.of(4, "Throws `IllegalArgumentException` if degrees is out of range", () -> {
            Refused.argument("-11", Made::busy, x -> x.setWarmth(-11));
            Refused.argument("51", Made::busy, x -> x.setWarmth(51));
        });
    }

    private static void measure() {
        Sentences.of(5, "Measures a length.", () -> {
            VernierDrawers x = Made.tool(4, 0);
            Check.is("the length", 123, () -> x.measure(0, 0, 123));
            Check.is("is a use", 1, () -> x.usesOf(0));
        });
        toolNumbers(5, Made::busy, (x, tool) -> x.measure(tool, 0, 100), 100 + 3 - 4, 100);
        Sentences.of(5, "- `material`: 0 to 2", () -> {
            VernierDrawers x = Made.tool(4, 0);
            x.setWarmth(50);
            Check.is("0", 1000, () -> x.measure(0, 0, 1000));
            Check.is("2", 2001, () -> x.measure(0, 2, 2000));
            Refused.numbers("material", Made::busy, (y, material) -> y.measure(0, material, 100), -1, 3);
        });
        Sentences.of(5, "- `length`: 0 to 15000", () -> {
            Check.is("0", 0, () -> Made.tool(0, 0).measure(0, 0, 0));
            Check.is("15000", 15000, () -> Made.tool(0, 0).measure(0, 0, 15000));
            Refused.numbers("length", Made::busy, (x, length) -> x.measure(0, 0, length), -1, 15001);
            Refused.argument("15001, though it would show 14971", () -> Made.tool(0, -30), x -> x.measure(0, 0, 15001));
            Refused.argument("-1, though it would show 29", () -> Made.tool(0, 30), x -> x.measure(0, 0, -1));
        });
        Sentences.of(5, "Returns the reading less the known error.", () -> {
            VernierDrawers x = Made.blocks(100);
            x.addTool(4, 30);
            x.addTool(4, -30);
            x.calibrate(1, 100);
            x.calibrate(2, 100);
            Check.is("no known error", 50, () -> x.measure(0, 0, 50));
            Check.is("known, 30", 50, () -> x.measure(1, 0, 50));
            Check.is("known, -30", 50, () -> x.measure(2, 0, 50));
            Check.is("shows 0", 30, () -> x.measure(2, 0, 30));
            Check.is("a length of 0", 0, () -> x.measure(1, 0, 0));
        });
        Sentences.of(5, "Throws `IllegalArgumentException` if there is no such tool, or material or length is out of range",
            () -> {
                Refused.argument("no tool", Made::empty, x -> x.measure(0, 0, 0));
                Refused.argument("the tool", Made::full, x -> x.measure(6, 0, 0));
                Refused.argument("the material", Made::full, x -> x.measure(5, 3, 0));
                Refused.argument("the length", Made::full, x -> x.measure(5, 0, 15001));
                Refused.argument("all", Made::full, x -> x.measure(-1, -1, -1));
            });
        Sentences.of(5, "Throws `IllegalStateException` if the tool cannot be read", () -> {
            Made low = () -> Made.tool(3, -1);
            Refused.state("-1", low, x -> x.measure(0, 0, 0));
            Check.is("0", 0, () -> low.make().measure(0, 0, 1));
            Check.is("2500", 2500, () -> low.make().measure(0, 0, 2501));
            Refused.state("2501", low, x -> x.measure(0, 0, 2502));
            Refused.state("14999", low, x -> x.measure(0, 0, 15000));
        });
    }

    /** The two tools there are answer so; there are no others. */
    private static void toolNumbers(int promise, Made made, Refused.ByNumber call, double first, double second) {
        Sentences.of(promise, "- `tool`: its number", () -> {
            Check.is("the first one", first, () -> call.of(made.make(), 0));
            Check.is("the second one", second, () -> call.of(made.make(), 1));
            Refused.numbers("tool", made, call, -1, 2, 5, 6);
            Refused.numbers("tool, of 6", Made::full, call, -1, 6);
        });
    }

    private static void calibrate() {
        Sentences.of(6, "Calibrates a tool.", () -> {
            VernierDrawers x = Made.tool(4, 9);
            x.addBlock(100, 0);
            x.calibrate(0, 100);
            Check.is("is known", 9, () -> x.knownError(0));
            Check.is("is a use", 1, () -> x.usesOf(0));
        });
        toolNumbers(6, Made::busy, (x, tool) -> x.calibrate(tool, 200), 202 - 200, 190 - 200);
        Sentences.of(6, "- `length`: 1 to 15000", () -> {
            Check.is("1", 0, () -> Made.blocks(1).calibrate(0, 1));
            Made three = () -> {
                VernierDrawers x = Made.blocks(5000, 5000, 5000);
                x.addTool(2, -1);
                return x;
            };
            Check.is("15000, truly 15001", 0, () -> three.make().calibrate(1, 15000));
            Refused.numbers("length", Made::busy, (x, length) -> x.calibrate(0, length), 0, -1, 15001);
            Refused.argument("15001, though it is a sum", () -> {
                VernierDrawers x = three.make();
                x.addBlock(1, 0);
                return x;
            }, x -> x.calibrate(1, 15001));
        });
        Sentences.of(6, "Returns the known error then.", () -> {
            VernierDrawers x = Made.blocks(100);
            Check.is("0", 0, () -> x.calibrate(0, 100));
            x.addTool(4, -30);
            Check.is("-30", -30, () -> x.calibrate(1, 100));
            Check.is("the same once more", -30, () -> x.calibrate(1, 100));
        });
        Sentences.of(6, "Throws `IllegalArgumentException` if there is no such tool, or length is out of range", () -> {
            Refused.argument("no tool", Made::empty, x -> x.calibrate(0, 1));
            Refused.argument("the tool", Made::full, x -> x.calibrate(6, 100));
            Refused.argument("the length", Made::full, x -> x.calibrate(5, 0));
            Refused.argument("both", Made::full, x -> x.calibrate(-1, 15001));
        });
        Sentences.of(6, "Throws `IllegalStateException` if the length cannot be stacked, or the tool cannot be read", () -> {
            Refused.state("no block", () -> Made.tool(4, 0), x -> x.calibrate(0, 1));
            Refused.state("not stacked", Made::busy, x -> x.calibrate(0, 501));
            Refused.state("shows 2501", () -> Made.blocks(2501), x -> x.calibrate(0, 2501));
            Check.is("shows 2500", 0, () -> Made.blocks(2500).calibrate(0, 2500));
            Refused.state("truly 2501", () -> Made.blocks(1000, 1000, 500), x -> x.calibrate(0, 2500));
            Check.is("truly 2500", 1, () -> Made.blocks(1000, 1000, 499).calibrate(0, 2499));
            Made low = () -> {
                VernierDrawers x = Made.tool(4, 0);
                x.addBlock(2, -3);
                x.addBlock(3, -3);
                return x;
            };
            Refused.state("shows -1", low, x -> x.calibrate(0, 2));
            Check.is("shows 0", -3, () -> low.make().calibrate(0, 3));
        });
    }

    private static void endDay() {
        Sentences.of(7, "A day ends.", () -> {
            VernierDrawers x = Made.empty();
            x.endDay();
            Check.is("one", 1, x::days);
        });
        Sentences.of(7, "Returns how many tools are due then.", () -> {
            Check.is("no tools", 0, () -> Made.empty().endDay());
            VernierDrawers x = Made.tool(4, 0);
            x.addTool(4, 0);
            endDays(x, 1);
            x.addTool(4, 0);
            measure(x, 2, 29);
            Check.is("none", 0, x::endDay);
            measure(x, 2, 1);
            Check.is("one by its uses", 1, x::endDay);
            endDays(x, 6);
            Check.is("and one by its days", 2, x::endDay);
            Check.is("and the one that came later", 3, x::endDay);
        });
        Sentences.of(7, "Throws `IllegalStateException` if 999 days have ended", () -> {
            VernierDrawers x = Made.late(998);
            Check.is("998", 1, x::endDay);
            Check.is("then 999", 999, x::days);
            Refused.state("999", () -> Made.late(999), VernierDrawers::endDay);
        });
    }

    // ---- promises 15 to 22

    private static void looksAtTools() {
        Sentences.of(15, "Returns how many tools there are.", () -> {
            Check.is("none", 0, () -> Made.empty().tools());
            Check.is("one", 1, () -> Made.tool(4, 0).tools());
        });
        Sentences.of(15, "Returns how many.", () -> Check.is("six", 6, () -> Made.full().tools()));
        lookAtTools(16, "Returns the kind of a tool.", "Returns the kind.", VernierDrawers::kindOf, 4, 0);
        lookAtTools(17, "Returns the step of a tool.", "Returns the step.", VernierDrawers::stepOf, 1, 10);
        lookAtTools(18, "Returns how often a tool was used.", "Returns how often so far.", VernierDrawers::usesOf, 13, 0);
        lookAtTools(19, "Returns the wear of a tool.", "Returns the wear.", VernierDrawers::wearOf, 1, 0);
        lookAtTools(20, "Returns the known error of a tool.", "Returns the error.", VernierDrawers::knownError, 4, 0);
    }

    private static VernierDrawers worn() {
        VernierDrawers x = Made.busy();
        measure(x, 0, 6);
        return x;
    }

    private static void lookAtTools(int promise, String what, String answer, Refused.ByNumber call, double first,
            double second) {
        Sentences.of(promise, what, () -> Check.is("of the first", first, () -> call.of(worn(), 0)));
        Sentences.of(promise, answer, () -> Check.is("of the second", second, () -> call.of(worn(), 1)));
        toolNumbers(promise, DrawerSentences::worn, call, first, second);
        noSuchTool(promise, call);
    }

    private static void noSuchTool(int promise, Refused.ByNumber call) {
        Sentences.of(promise, "Throws `IllegalArgumentException` if there is no such tool", () -> {
            Refused.argument("no tool", Made::empty, x -> call.of(x, 0));
            Refused.argument("tool 1 of one", () -> Made.tool(4, 0), x -> call.of(x, 1));
            Refused.argument("tool 6 of six", Made::full, x -> call.of(x, 6));
            Refused.argument("tool -1", Made::full, x -> call.of(x, -1));
            Refused.argument("a tool that was undone", () -> {
                VernierDrawers x = Made.tool(4, 0);
                x.undo();
                return x;
            }, x -> call.of(x, 0));
        });
    }

    private static void isDue() {
        Refused.ByNumber due = (x, tool) -> Check.of(x.isDue(tool));
        Sentences.of(21, "Tells whether a tool is due.", () -> {
            VernierDrawers x = Made.tool(4, 0);
            endDays(x, 9);
            isDue("9 days", false, x, 0);
            x.endDay();
            isDue("10 days", true, x, 0);
        });
        toolNumbers(21, Made::busy, due, 0, 0);
        Sentences.of(21, "Returns whether it is.", () -> {
            VernierDrawers x = Made.tool(4, 0);
            x.addTool(4, 0);
            measure(x, 2, 30);
            isDue("the first one", true, x, 0);
            isDue("the second one", false, x, 1);
        });
        noSuchTool(21, due);
        Sentences.of(22, "Returns after how many uses a tool is due by them.", () -> {
            VernierDrawers x = Made.tool(4, 0);
            Check.is("a new one", 30, () -> x.usesLeft(0));
            measure(x, 2, 1);
            Check.is("used once", 29, () -> x.usesLeft(0));
        });
        toolNumbers(22, Made::busy, VernierDrawers::usesLeft, 24, 30);
        Sentences.of(22, "Returns how many, 0 if it is.", () -> {
            VernierDrawers x = Made.tool(4, 0);
            measure(x, 2, 29);
            Check.is("one", 1, () -> x.usesLeft(0));
            measure(x, 2, 1);
            Check.is("it is", 0, () -> x.usesLeft(0));
            measure(x, 2, 1);
            Check.is("it is, by more", 0, () -> x.usesLeft(0));
        });
        noSuchTool(22, VernierDrawers::usesLeft);
    }

    // ---- promises 23 to 29

    private static void looksAtWarmth() {
        Sentences.of(23, "Returns the warmth.", () -> Check.is("at first", 20, () -> Made.empty().warmth()));
        Sentences.of(23, "Returns the degrees.", () -> Check.is("set", 30, () -> Made.busy().warmth()));
        Made warm = () -> {
            VernierDrawers x = Made.empty();
            x.setWarmth(50);
            return x;
        };
        Sentences.of(24, "Returns the stretch of a length.",
            () -> Check.is("steel", 3, () -> warm.make().stretchOf(0, 10000)));
        Sentences.of(24, "- `material`: 0 to 2", () -> {
            Check.is("0", 5, () -> warm.make().stretchOf(0, 15000));
            Check.is("2", 10, () -> warm.make().stretchOf(2, 15000));
            Refused.numbers("material", warm, (x, material) -> x.stretchOf(material, 15000), -1, 3);
        });
        Sentences.of(24, "- `length`: 0 to 15000", () -> {
            Check.is("0", 0, () -> warm.make().stretchOf(2, 0));
            Check.is("15000", 8, () -> warm.make().stretchOf(1, 15000));
            Refused.numbers("length", warm, (x, length) -> x.stretchOf(0, length), -1, 15001);
        });
        Sentences.of(24, "Returns the stretch, below 0 if it is cold.", () -> {
            VernierDrawers x = Made.empty();
            x.setWarmth(-10);
            Check.is("cold", -10, () -> x.stretchOf(2, 15000));
            x.setWarmth(19);
            Check.is("not cold enough", 0, () -> x.stretchOf(2, 15000));
        });
        Sentences.of(24, "Throws `IllegalArgumentException` if material or length is out of range", () -> {
            Refused.argument("the material", Made::busy, x -> x.stretchOf(3, 100));
            Refused.argument("the length", Made::busy, x -> x.stretchOf(0, 15001));
            Refused.argument("both", Made::empty, x -> x.stretchOf(-1, -1));
        });
    }

    private interface Reading {
        double of(VernierDrawers x, int tool, int material, int length);
    }

    private static void looksAtReadings() {
        Sentences.of(25, "Returns what the reading of a tool would be, told by rounding.", () -> {
            Check.is("down", 10, () -> Made.tool(0, 0).readingFor(0, 0, 14));
            Check.is("up", 20, () -> Made.tool(0, 0).readingFor(0, 0, 15));
        });
        looksAtReading(25, "Returns the reading.", VernierDrawers::readingFor, 2500, 15000, 0);
        Sentences.of(26, "Returns the same, told by looking: of the mark that is not above what it shows, and of the next"
                + " one, all lines are looked at, which one is the nearest.", () -> {
            for (int kind = 0; kind < 5; kind++) {
                VernierDrawers x = Made.tool(kind, 0);
                int most = kind < 3 ? 15000 : 2500;
                for (int length = 0; length <= 130; length++) {
                    int shown = length > 110 ? most - 130 + length : length;
                    int due = (2 * shown + STEPS[kind]) / (2 * STEPS[kind]) * STEPS[kind];
                    Check.is("kind " + kind + " at " + shown, due, () -> x.readingByLooking(0, 0, shown));
                }
            }
        });
        looksAtReading(26, "Returns the reading.", VernierDrawers::readingByLooking, 2500, 15000, 0);
        Sentences.of(27, "Returns the mark of this reading.", () -> {
            Check.is("below it", 0, () -> Made.tool(0, 0).markFor(0, 0, 94));
            Check.is("at it, as read", 1, () -> Made.tool(0, 0).markFor(0, 0, 95));
        });
        looksAtReading(27, "Returns the mark.", VernierDrawers::markFor, 25, 150, 0);
        Sentences.of(28, "Returns the line of this reading.", () -> {
            Check.is("the last one", 9, () -> Made.tool(0, 0).lineFor(0, 0, 94));
            Check.is("the first one, as read", 0, () -> Made.tool(0, 0).lineFor(0, 0, 95));
        });
        looksAtReading(28, "Returns the line.", VernierDrawers::lineFor, 0, 0, 0);
        Sentences.of(29, "Returns how far a measured length would be from the length: the reading less the known error, less"
                + " the length, without a sign.", () -> {
            Check.is("less", 30, () -> Made.tool(4, -30).offBy(0, 0, 30));
            Check.is("more", 30, () -> Made.tool(4, 30).offBy(0, 0, 0));
            VernierDrawers x = Made.tool(4, 30);
            x.addBlock(100, 3);
            x.calibrate(0, 100);
            Check.is("less the known error", 3, () -> x.offBy(0, 0, 50));
        });
        looksAtReading(29, "Returns how far.", VernierDrawers::offBy, 0, 0, 0);
    }

    /** What the greatest length answers of a screw and of a calliper, and 0 of both. */
    private static void looksAtReading(int promise, String answer, Reading look, double screw, double calliper,
            double ofNothing) {
        Sentences.of(promise, answer, () -> {
            Check.is("0", ofNothing, () -> look.of(Made.tool(4, 0), 0, 0, 0));
            Check.is("the greatest of a screw", screw, () -> look.of(Made.tool(4, 0), 0, 0, 2500));
        });
        Sentences.of(promise, "- `tool`: its number", () -> {
            Made both = () -> {
                VernierDrawers x = Made.tool(4, 0);
                x.addTool(0, 0);
                return x;
            };
            Check.is("the first one", screw, () -> look.of(both.make(), 0, 0, 2500));
            Check.is("the second one", calliper, () -> look.of(both.make(), 1, 0, 15000));
            Refused.numbers("tool", both, (x, tool) -> look.of(x, tool, 0, 100), -1, 2);
        });
        Sentences.of(promise, "- `material`: 0 to 2", () -> {
            for (int material = 0; material < 3; material++) {
                int m = material;
                Check.is("material " + m, screw, () -> look.of(Made.tool(4, 0), 0, m, 2500));
            }
            Refused.numbers("material", Made::busy, (x, material) -> look.of(x, 0, material, 100), -1, 3);
        });
        Sentences.of(promise, "- `length`: 0 to 15000", () -> {
            Check.is("0", ofNothing, () -> look.of(Made.tool(0, 0), 0, 0, 0));
            Check.is("15000", calliper, () -> look.of(Made.tool(0, 0), 0, 0, 15000));
            Refused.numbers("length", Made::busy, (x, length) -> look.of(x, 1, 0, length), -1, 15001);
        });
        Sentences.of(promise, "Throws `IllegalArgumentException` if there is no such tool, or material or length is out of"
                + " range", () -> {
            Refused.argument("no tool", Made::empty, x -> look.of(x, 0, 0, 0));
            Refused.argument("the tool", Made::full, x -> look.of(x, 6, 0, 0));
            Refused.argument("the material", Made::full, x -> look.of(x, 0, 3, 0));
            Refused.argument("the length", Made::full, x -> look.of(x, 0, 0, 15001));
            Refused.argument("all", Made::full, x -> look.of(x, -1, -1, -1));
        });
        Sentences.of(promise, "Throws `NoSuchElementException` if the tool cannot be read", () -> {
            for (int kind = 0; kind < 5; kind++) {
                int k = kind;
                Made low = () -> Made.tool(k, -1);
                Made high = () -> Made.tool(k, 1);
                Refused.element("shows -1, kind " + k, low, x -> look.of(x, 0, 0, 0));
                Refused.element("shows 1 too much, kind " + k, high, x -> look.of(x, 0, 0, GREATEST[k]));
            }
            Refused.element("shows 15000", () -> Made.tool(3, 0), x -> look.of(x, 0, 0, 15000));
        });
    }

    // ---- promises 30 to 37

    private static void looksAtBlocks() {
        Sentences.of(30, "Returns how many blocks there are.", () -> {
            Check.is("none", 0, () -> Made.empty().blocks());
            Check.is("two", 2, () -> Made.busy().blocks());
        });
        Sentences.of(30, "Returns how many.", () -> Check.is("ten", 10, () -> Made.full().blocks()));
        lookAtBlocks(31, "Returns the length of a block.", "Returns the length.", VernierDrawers::blockLength, 500, 200);
        lookAtBlocks(32, "Returns the error of a block.", "Returns the error.", VernierDrawers::blockError, 2, -1);
    }

    private static void lookAtBlocks(int promise, String what, String answer, Refused.ByNumber call, int first,
            int second) {
        Sentences.of(promise, what, () -> Check.is("of the first", first, () -> call.of(Made.busy(), 0)));
        Sentences.of(promise, answer, () -> Check.is("of the second", second, () -> call.of(Made.busy(), 1)));
        Sentences.of(promise, "- `block`: its number", () -> {
            Check.is("the first one", first, () -> call.of(Made.busy(), 0));
            Check.is("the last one", second, () -> call.of(Made.busy(), 1));
            Refused.numbers("block", Made::busy, call, -1, 2);
        });
        Sentences.of(promise, "Throws `IllegalArgumentException` if there is no such block", () -> {
            Refused.argument("no block", Made::empty, x -> call.of(x, 0));
            Refused.numbers("of ten", Made::full, call, -1, 10);
            Refused.argument("a block that was undone", () -> {
                VernierDrawers x = Made.blocks(100);
                x.undo();
                return x;
            }, x -> call.of(x, 0));
        });
    }

    private static VernierDrawers longBlocks() {
        return Made.blocks(1, 5000, 5000, 4999, 5000);
    }

    private static void looksAtStacks() {
        Sentences.of(33, "Returns the fewest blocks by which a length can be stacked, told by a table: block by block, for"
                + " each length the fewest.", () -> {
            Check.is("one", 1, () -> Made.blocks(100, 200, 300).fewestBlocks(300));
            Check.is("two", 2, () -> Made.blocks(100, 200).fewestBlocks(300));
        });
        lookAtStacks(33, VernierDrawers::fewestBlocks, 1, 3);
        Sentences.of(33, "Returns how many, 1 to 5.", () -> {
            Check.is("1", 1, () -> Made.blocks(1, 2, 4, 8, 16, 32).fewestBlocks(32));
            Check.is("5", 5, () -> Made.blocks(1, 2, 4, 8, 16, 32).fewestBlocks(62));
        });
        Sentences.of(34, "Returns the same, told by trying all sets of blocks.", () -> {
            Check.is("one", 1, () -> Made.blocks(100, 200, 300).fewestByTrying(300));
            Check.is("two", 2, () -> Made.blocks(100, 200).fewestByTrying(300));
        });
        lookAtStacks(34, VernierDrawers::fewestByTrying, 1, 3);
        Sentences.of(34, "Returns how many.", () -> {
            Check.is("1", 1, () -> Made.blocks(1, 2, 4, 8, 16, 32).fewestByTrying(32));
            Check.is("5", 5, () -> Made.blocks(1, 2, 4, 8, 16, 32).fewestByTrying(62));
        });
        Sentences.of(35, "Returns the stack of a length.",
            () -> Check.is("of two sets", 3, () -> Made.blocks(100, 200, 200).stackFor(300)));
        lookAtStacks(35, VernierDrawers::stackFor, 1, 2 + 4 + 16);
        Sentences.of(35, "Returns the blocks, as a set.", () -> {
            Check.is("the first one", 1, () -> Made.full().stackFor(100));
            Check.is("the last one", 512, () -> Made.full().stackFor(109));
            Check.is("the last five", 31 << 5, () -> Made.full().stackFor(535));
        });
        Sentences.of(36, "Returns how long the stack of a length truly is.", () -> {
            Check.is("two", 300, () -> Made.blocks(100, 200).trueLength(300));
            Check.is("three", 701, () -> Made.blocks(100, 200, 400).trueLength(700));
        });
        lookAtStacks(36, VernierDrawers::trueLength, 1, 15001);
        Sentences.of(36, "Returns the true length.", () -> {
            VernierDrawers x = Made.empty();
            x.addBlock(1, -3);
            x.addBlock(5000, 3);
            Check.is("below 0", -2, () -> x.trueLength(1));
            Check.is("above its length", 5003, () -> x.trueLength(5000));
        });
        stackable();
    }

    private static void lookAtStacks(int promise, Refused.ByNumber call, int ofLeast, int ofGreatest) {
        Sentences.of(promise, "- `length`: 1 to 15000", () -> {
            Check.is("1", ofLeast, () -> call.of(longBlocks(), 1));
            Check.is("15000", ofGreatest, () -> call.of(longBlocks(), 15000));
            Refused.numbers("length", DrawerSentences::longBlocks, call, 0, -1, 15001);
        });
        Sentences.of(promise, "Throws `IllegalArgumentException` if length is out of range", () -> {
            Refused.argument("0", Made::busy, x -> call.of(x, 0));
            Refused.argument("15001, though it is a sum", DrawerSentences::longBlocks, x -> call.of(x, 15001));
            Refused.argument("0 of no blocks", Made::empty, x -> call.of(x, 0));
        });
        Sentences.of(promise, "Throws `NoSuchElementException` if it cannot be stacked", () -> {
            Refused.element("no blocks", Made::empty, x -> call.of(x, 1));
            Refused.element("no blocks, far", Made::empty, x -> call.of(x, 15000));
            Refused.element("six blocks", () -> Made.blocks(1, 2, 4, 8, 16, 32), x -> call.of(x, 63));
            Refused.element("a block twice", () -> Made.blocks(100), x -> call.of(x, 200));
            Refused.element("beside it", () -> Made.blocks(100), x -> call.of(x, 99));
        });
    }

    private static void stackable() {
        Sentences.of(37, "Returns how many different lengths up to 15000 can be stacked.", () -> {
            Check.is("none", 0, () -> Made.empty().stackable());
            Check.is("one", 1, () -> Made.blocks(5000).stackable());
            Check.is("different ones", 2, () -> Made.blocks(100, 100).stackable());
            Check.is("15000", 3, () -> Made.blocks(5000, 5000, 5000).stackable());
            Check.is("not 15001, nor 20000", 6, () -> longerBlocks().stackable());
        });
        Sentences.of(37, "Returns how many.", () -> {
            Check.is("sets of 1 to 5 of 6", 62, () -> Made.blocks(1, 2, 4, 8, 16, 32).stackable());
            Check.is("ten of one length", 5, () -> Made.blocks(7, 7, 7, 7, 7, 7, 7, 7, 7, 7).stackable());
        });
    }

    /** 1, 5000, 5001, 10000, 10001 and 15000. */
    private static VernierDrawers longerBlocks() {
        return Made.blocks(5000, 5000, 5000, 1, 5000);
    }
}
