/** Promises 2 to 7 and 15 to 37: the drawer. */
public final class DrawerTest {
    private static final int[] FAR = {Integer.MIN_VALUE, Integer.MAX_VALUE};

    public static void main(String[] args) {
        addTool();
        addBlock();
        setWarmth();
        measure();
        wear();
        calibrate();
        calibrateRefused();
        blockErrors();
        endDay();
        tools();
        stepOf();
        usesOf();
        isDue();
        isDueAgain();
        stretchOf();
        readings();
        readingsRefused();
        blocks();
        stacks();
        stacksRefused();
        stackable();
        Check.end();
    }

    private static void addTool() {
        VernierDrawers x = new VernierDrawers();
        Check.refuses("2: kind -1", Check.ARGUMENT, () -> x.addTool(-1, 0));
        Check.refuses("2: kind 5", Check.ARGUMENT, () -> x.addTool(5, 0));
        Check.refuses("2: error -31", Check.ARGUMENT, () -> x.addTool(0, -31));
        Check.refuses("2: error 31", Check.ARGUMENT, () -> x.addTool(0, 31));
        for (int far : FAR) {
            Check.refuses("2: far kind", Check.ARGUMENT, () -> x.addTool(far, 0));
            Check.refuses("2: far error", Check.ARGUMENT, () -> x.addTool(0, far));
        }
        Check.is("2: no tool came", 0, x::tools);
        Check.is("2: no change was made", 0, x::states);
        Check.is("2: kind 0", 0, () -> x.addTool(0, -30));
        Check.is("2: kind 4", 1, () -> x.addTool(4, 30));
        Check.is("2: kind 2", 2, () -> x.addTool(2, 0));
        Check.is("2: kind 3", 3, () -> x.addTool(3, 0));
        Check.is("2: kind 1", 4, () -> x.addTool(1, 0));
        Check.is("2: the sixth", 5, () -> x.addTool(1, 0));
        Check.refuses("2: a seventh", Check.STATE, () -> x.addTool(0, 0));
        Check.refuses("2: a wrong seventh", Check.ARGUMENT, () -> x.addTool(5, 0));
        Check.is("2: six tools", 6, x::tools);
        Check.is("2: the error at zero", 70, () -> x.readingFor(0, 0, 95));
        Check.is("2: the other error at zero", 125, () -> x.readingFor(1, 0, 95));
        Check.is("2: a new tool is not used", 0, () -> x.usesOf(0));
        Check.is("2: a new tool is not worn", 0, () -> x.wearOf(0));
        Check.is("2: a new tool has no known error", 0, () -> x.knownError(0));
        Check.is("2: an undone tool", 3, x::undo);
        Check.is("2: five tools", 5, x::tools);

        VernierDrawers y = new VernierDrawers();
        y.addTool(2, 20);
        y.addBlock(10, 0);
        y.calibrate(0, 10);
        y.measure(0, 0, 100);
        y.undo();
        y.undo();
        y.undo();
        y.undo();
        Check.is("2: a tool in the room of another one", 0, () -> y.addTool(0, 0));
        Check.is("2: is of its kind", 0, () -> y.kindOf(0));
        Check.is("2: is not used", 0, () -> y.usesOf(0));
        Check.is("2: has no known error", 0, () -> y.knownError(0));
    }

    private static void addBlock() {
        VernierDrawers x = new VernierDrawers();
        Check.refuses("3: length 0", Check.ARGUMENT, () -> x.addBlock(0, 0));
        Check.refuses("3: length 5001", Check.ARGUMENT, () -> x.addBlock(5001, 0));
        Check.refuses("3: error -4", Check.ARGUMENT, () -> x.addBlock(1, -4));
        Check.refuses("3: error 4", Check.ARGUMENT, () -> x.addBlock(1, 4));
        for (int far : FAR) {
            Check.refuses("3: far length", Check.ARGUMENT, () -> x.addBlock(far, 0));
            Check.refuses("3: far error", Check.ARGUMENT, () -> x.addBlock(1, far));
        }
        Check.is("3: no block came", 0, x::blocks);
        Check.is("3: no change was made", 0, x::states);
        Check.is("3: the least one", 0, () -> x.addBlock(1, -3));
        Check.is("3: the greatest one", 1, () -> x.addBlock(5000, 3));
        for (int i = 2; i < 10; i++) {
            int number = i;
            Check.is("3: block " + i, i, () -> x.addBlock(100 * number, 0));
        }
        Check.refuses("3: an eleventh", Check.STATE, () -> x.addBlock(1, 0));
        Check.refuses("3: a wrong eleventh", Check.ARGUMENT, () -> x.addBlock(0, 0));
        Check.is("3: ten blocks", 10, x::blocks);
        Check.is("3: four changes are recorded", 4, x::states);
    }

    private static void setWarmth() {
        VernierDrawers x = new VernierDrawers();
        Check.refuses("4: -11", Check.ARGUMENT, () -> x.setWarmth(-11));
        Check.refuses("4: 51", Check.ARGUMENT, () -> x.setWarmth(51));
        for (int far : FAR) {
            Check.refuses("4: far", Check.ARGUMENT, () -> x.setWarmth(far));
        }
        Check.is("4: no change was made", 0, x::states);
        Check.is("23: the first warmth", 20, x::warmth);
        Check.is("4: -10", 20, () -> x.setWarmth(-10));
        Check.is("23: the warmth", -10, x::warmth);
        Check.is("4: 50", -10, () -> x.setWarmth(50));
        Check.is("23: the warmth then", 50, x::warmth);
        Check.is("4: the same once more", 50, () -> x.setWarmth(50));
        Check.is("4: three changes", 3, x::states);
        x.undo();
        x.undo();
        Check.is("4: undone", -10, x::warmth);
    }

    private static void measure() {
        VernierDrawers x = new VernierDrawers();
        Check.refuses("5: no tool", Check.ARGUMENT, () -> x.measure(0, 0, 0));
        x.addTool(0, 7);
        x.addTool(4, -5);
        Check.refuses("5: tool -1", Check.ARGUMENT, () -> x.measure(-1, 0, 0));
        Check.refuses("5: tool 2", Check.ARGUMENT, () -> x.measure(2, 0, 0));
        Check.refuses("5: material -1", Check.ARGUMENT, () -> x.measure(0, -1, 0));
        Check.refuses("5: material 3", Check.ARGUMENT, () -> x.measure(0, 3, 0));
        Check.refuses("5: length -1", Check.ARGUMENT, () -> x.measure(0, 0, -1));
        Check.refuses("5: length 15001", Check.ARGUMENT, () -> x.measure(0, 0, 15001));
        for (int far : FAR) {
            Check.refuses("5: far tool", Check.ARGUMENT, () -> x.measure(far, 0, 0));
            Check.refuses("5: far material", Check.ARGUMENT, () -> x.measure(0, far, 0));
            Check.refuses("5: far length", Check.ARGUMENT, () -> x.measure(0, 0, far));
        }
        Check.refuses("5: below 0", Check.STATE, () -> x.measure(1, 0, 4));
        Check.refuses("5: above the greatest mark", Check.STATE, () -> x.measure(1, 0, 2506));
        Check.refuses("5: 15000 of a calliper that shows more", Check.STATE, () -> x.measure(0, 0, 15000));
        Check.is("5: refused ones are no use", 0, () -> x.usesOf(1));
        Check.is("5: refused ones are no change", 2, x::states);
        Check.is("5: shows 0", 0, () -> x.measure(1, 0, 5));
        Check.is("5: shows the greatest mark", 2500, () -> x.measure(1, 0, 2505));
        Check.is("5: steps of 10, 7 more", 500, () -> x.measure(0, 0, 495));
        Check.is("5: length 0", 10, () -> x.measure(0, 1, 0));
        Check.is("5: it is used", 2, () -> x.usesOf(0));
        x.addBlock(500, 0);
        x.calibrate(0, 500);
        Check.is("5: the known error is taken off", 490, () -> x.measure(0, 0, 495));
        x.setWarmth(50);
        Check.is("5: aluminium in the warmth, shows 10010", 10000, () -> x.measure(0, 2, 10000));
        x.setWarmth(-10);
        Check.is("5: aluminium in the cold, shows 10004", 9990, () -> x.measure(0, 2, 10000));
    }

    private static void wear() {
        VernierDrawers x = new VernierDrawers();
        for (int i = 0; i < 4; i++) {
            x.addTool(4, 30);
        }
        for (int i = 0; i < 6; i++) {
            x.measure(0, 0, 100);
        }
        Check.is("19: rubbed by 18", 0, () -> x.wearOf(0));
        Check.is("19: behind the reading", 130, () -> x.measure(0, 0, 100));
        Check.is("19: rubbed by 21", 1, () -> x.wearOf(0));
        Check.is("19: shows less by the wear", 129, () -> x.measure(0, 0, 100));
        for (int i = 8; i < 13; i++) {
            x.measure(0, 0, 100);
        }
        Check.is("19: rubbed by 39", 1, () -> x.wearOf(0));
        x.measure(0, 0, 100);
        Check.is("19: rubbed by 42", 2, () -> x.wearOf(0));
        for (int i = 14; i < 20; i++) {
            x.measure(0, 0, 100);
        }
        Check.is("19: rubbed by 60", 3, () -> x.wearOf(0));
        for (int i = 0; i < 9; i++) {
            x.measure(1, 1, 100);
        }
        Check.is("19: brass, 18", 0, () -> x.wearOf(1));
        x.measure(1, 1, 100);
        Check.is("19: brass, 20", 1, () -> x.wearOf(1));
        for (int i = 0; i < 19; i++) {
            x.measure(2, 2, 100);
        }
        Check.is("19: aluminium, 19", 0, () -> x.wearOf(2));
        x.measure(2, 2, 100);
        Check.is("19: aluminium, 20", 1, () -> x.wearOf(2));

        Check.write(x, "m3,99;m3,99;m3,99;m3,99;m3,99;m3,99;m3,99;m3,99;m3,99;m3,99;");
        Check.playTimes(x, 26);
        Check.is("19: rubbed by 780", 39, () -> x.wearOf(3));
        Check.playTimes(x, 1);
        Check.is("19: rubbed by 810", 40, () -> x.wearOf(3));
        Check.playTimes(x, 4);
        Check.is("19: never above 40", 40, () -> x.wearOf(3));
        Check.is("18: used 310 times", 310, () -> x.usesOf(3));
        Check.is("5: worn by 40", 89, () -> x.measure(3, 0, 99));
        Check.refuses("5: worn below 0", Check.STATE, () -> x.measure(3, 0, 9));
        Check.is("5: worn to 0", 0, () -> x.measure(3, 0, 10));
        Check.refuses("19: no such tool", Check.ARGUMENT, () -> x.wearOf(4));
        Check.refuses("19: tool -1", Check.ARGUMENT, () -> x.wearOf(-1));
    }

    private static void calibrate() {
        VernierDrawers x = new VernierDrawers();
        x.addTool(4, 12);
        x.addBlock(1000, 1);
        x.addBlock(500, -1);
        x.addBlock(250, 3);
        Check.is("6: by the true length of one block", 13, () -> x.calibrate(0, 1000));
        Check.is("20: the known error", 13, () -> x.knownError(0));
        Check.is("6: of two blocks", 12, () -> x.calibrate(0, 1500));
        Check.is("6: of three blocks, and 1 more", 16, () -> x.calibrate(0, 1750));
        Check.is("20: the latest known error", 16, () -> x.knownError(0));
        Check.is("6: is a use", 3, () -> x.usesOf(0));
        Check.is("6: that is not counted", 30, () -> x.usesLeft(0));
        x.measure(0, 0, 100);
        x.measure(0, 0, 100);
        Check.is("6: two uses since then", 28, () -> x.usesLeft(0));
        x.calibrate(0, 1000);
        Check.is("6: calibrated once more", 30, () -> x.usesLeft(0));
        Check.is("6: rubs by 3, 18 so far", 0, () -> x.wearOf(0));
        Check.is("6: behind the reading", 13, () -> x.calibrate(0, 1000));
        Check.is("6: 21 so far", 1, () -> x.wearOf(0));
        Check.is("6: the wear is told", 12, () -> x.calibrate(0, 1000));
        x.undo();
        Check.is("6: undone", 13, () -> x.knownError(0));
        x.setWarmth(50);
        Check.is("6: the warmth does not matter", 12, () -> x.calibrate(0, 1000));

        VernierDrawers y = new VernierDrawers();
        y.addTool(0, 0);
        y.addTool(0, 0);
        for (int i = 0; i < 3; i++) {
            y.addBlock(5000, 0);
        }
        Check.refuses("6: 15001 by the two more", Check.STATE, () -> y.calibrate(0, 15000));
        y.addBlock(10, 0);
        for (int i = 0; i < 9; i++) {
            y.endDay();
        }
        y.calibrate(0, 10);
        Check.is("6: one tool is due after 10 days", 1, y::endDay);
        Check.is("6: the one that was not calibrated", 1, () -> Check.of(y.isDue(1)));
        Check.is("6: is calibrated", 0, () -> y.calibrate(1, 10));
        Check.is("6: then it is not due", 0, () -> Check.of(y.isDue(1)));
    }

    private static void calibrateRefused() {
        VernierDrawers x = new VernierDrawers();
        Check.refuses("6: no tool", Check.ARGUMENT, () -> x.calibrate(0, 1));
        x.addTool(4, -4);
        x.addBlock(5, -3);
        x.addBlock(2500, 3);
        x.addBlock(100, 0);
        Check.refuses("6: tool -1", Check.ARGUMENT, () -> x.calibrate(-1, 100));
        Check.refuses("6: tool 1", Check.ARGUMENT, () -> x.calibrate(1, 100));
        Check.refuses("6: length 0", Check.ARGUMENT, () -> x.calibrate(0, 0));
        Check.refuses("6: length 15001", Check.ARGUMENT, () -> x.calibrate(0, 15001));
        for (int far : FAR) {
            Check.refuses("6: far tool", Check.ARGUMENT, () -> x.calibrate(far, 100));
            Check.refuses("6: far length", Check.ARGUMENT, () -> x.calibrate(0, far));
        }
        Check.refuses("6: not stacked", Check.STATE, () -> x.calibrate(0, 15000));
        Check.refuses("6: not stacked either", Check.STATE, () -> x.calibrate(0, 1));
        Check.refuses("6: shows -2", Check.STATE, () -> x.calibrate(0, 5));
        Check.refuses("6: shows 2594", Check.STATE, () -> x.calibrate(0, 2600));
        Check.is("6: refused ones are no use", 0, () -> x.usesOf(0));
        Check.is("6: shows 2499", -1, () -> x.calibrate(0, 2500));
        x.addBlock(1, -3);
        x.addTool(4, 5);
        Check.is("36: a true length below 0", -2, () -> x.trueLength(1));
        Check.is("6: shows 3", 2, () -> x.calibrate(1, 1));
    }

    private static void blockErrors() {
        VernierDrawers x = new VernierDrawers();
        x.addTool(4, 30);
        x.addBlock(9, 1);
        x.addBlock(50, -3);
        for (int i = 0; i < 9; i++) {
            x.calibrate(0, 9);
        }
        Check.is("32: used 9 times", 1, () -> x.blockError(0));
        Check.is("32: behind the 10th reading, worn by 1", 30, () -> x.calibrate(0, 9));
        Check.is("32: used 10 times", 0, () -> x.blockError(0));
        Check.is("32: the other block is not used", -3, () -> x.blockError(1));
        for (int i = 10; i < 19; i++) {
            x.calibrate(0, 9);
        }
        Check.is("32: used 19 times", 0, () -> x.blockError(0));
        x.undo();
        x.calibrate(0, 59);
        x.calibrate(0, 59);
        Check.is("32: both are used", -1, () -> x.blockError(0));
        Check.is("32: the other one twice", -3, () -> x.blockError(1));
        Check.write(x, "c0,50;c0,50;c0,50;c0,50;c0,50;c0,50;c0,50;c0,50;c0,50;c0,50;");
        Check.playTimes(x, 5);
        Check.is("32: used 52 times", -8, () -> x.blockError(1));
        Check.playTimes(x, 1);
        Check.is("32: used 62 times", -9, () -> x.blockError(1));
        Check.playTimes(x, 2);
        Check.is("32: never below -9", -9, () -> x.blockError(1));
        Check.refuses("32: no such block", Check.ARGUMENT, () -> x.blockError(2));
        Check.refuses("32: block -1", Check.ARGUMENT, () -> x.blockError(-1));
    }

    private static void endDay() {
        VernierDrawers x = new VernierDrawers();
        Check.is("7: without tools", 0, x::endDay);
        x.addTool(0, 0);
        x.addTool(4, 0);
        for (int i = 0; i < 30; i++) {
            x.measure(1, 2, 100);
        }
        Check.is("7: one is due by its uses", 1, x::endDay);
        Check.is("60: days", 2, x::days);
        for (int i = 0; i < 8; i++) {
            Check.is("7: still one", 1, x::endDay);
        }
        Check.is("7: 10 days since they came", 2, x::endDay);
        Check.write(x, "d;d;d;d;d;d;d;d;d;d;d;d;d;d;d;d;d;d;d;d;d;d;d;d;d;d;d;d;d;d;");
        Check.playTimes(x, 32);
        Check.is("60: 971 days", 971, x::days);
        Check.refuses("7: 30 more are too many", Check.STATE, x::play);
        Check.write(x, "d;d;d;d;d;d;d;d;d;d;d;d;d;d;d;d;d;d;d;d;d;d;d;d;d;d;d;");
        Check.is("7: 27 more", 27, x::play);
        Check.is("7: the last day", 2, x::endDay);
        Check.is("60: 999 days", 999, x::days);
        Check.refuses("7: no more days", Check.STATE, x::endDay);
        Check.is("60: still 999", 999, x::days);
        x.undo();
        Check.is("60: undone", 998, x::days);
    }

    private static void tools() {
        VernierDrawers x = new VernierDrawers();
        Check.is("15: none", 0, x::tools);
        Check.refuses("16: none", Check.ARGUMENT, () -> x.kindOf(0));
        x.addTool(3, 0);
        x.addTool(1, 0);
        Check.is("15: two", 2, x::tools);
        Check.is("16: the first", 3, () -> x.kindOf(0));
        Check.is("16: the second", 1, () -> x.kindOf(1));
        for (int wrong : new int[] {-1, 2, Integer.MIN_VALUE, Integer.MAX_VALUE}) {
            Check.refuses("16: tool " + wrong, Check.ARGUMENT, () -> x.kindOf(wrong));
            Check.refuses("17: tool " + wrong, Check.ARGUMENT, () -> x.stepOf(wrong));
            Check.refuses("18: tool " + wrong, Check.ARGUMENT, () -> x.usesOf(wrong));
            Check.refuses("19: tool " + wrong, Check.ARGUMENT, () -> x.wearOf(wrong));
            Check.refuses("20: tool " + wrong, Check.ARGUMENT, () -> x.knownError(wrong));
            Check.refuses("21: tool " + wrong, Check.ARGUMENT, () -> Check.of(x.isDue(wrong)));
            Check.refuses("22: tool " + wrong, Check.ARGUMENT, () -> x.usesLeft(wrong));
        }
    }

    private static void stepOf() {
        int[] steps = {10, 5, 2, 1, 1};
        for (int kind = 0; kind < steps.length; kind++) {
            VernierDrawers x = new VernierDrawers();
            x.addTool(kind, 0);
            Check.is("17: kind " + kind, steps[kind], () -> x.stepOf(0));
        }
    }

    private static void usesOf() {
        VernierDrawers x = new VernierDrawers();
        x.addTool(4, 0);
        x.addBlock(1000, 0);
        x.addType(1000, -20, 20, 0);
        x.bring(0, 0);
        Check.is("18: not used", 0, () -> x.usesOf(0));
        x.measure(0, 0, 1000);
        Check.is("18: measuring", 1, () -> x.usesOf(0));
        x.calibrate(0, 1000);
        Check.is("18: calibrating", 2, () -> x.usesOf(0));
        x.judge(0);
        Check.is("18: judging", 3, () -> x.usesOf(0));
        x.readingFor(0, 0, 1000);
        x.readingByLooking(0, 0, 1000);
        x.offBy(0, 0, 1000);
        Check.is("18: asking is no use", 3, () -> x.usesOf(0));
    }

    private static void isDue() {
        VernierDrawers x = new VernierDrawers();
        x.addTool(4, 0);
        x.addBlock(100, 0);
        Check.is("22: 30 uses left", 30, () -> x.usesLeft(0));
        for (int i = 0; i < 29; i++) {
            x.measure(0, 2, 100);
        }
        Check.is("21: used 29 times", 0, () -> Check.of(x.isDue(0)));
        Check.is("22: one use left", 1, () -> x.usesLeft(0));
        x.measure(0, 2, 100);
        Check.is("21: used 30 times", 1, () -> Check.of(x.isDue(0)));
        Check.is("22: none left", 0, () -> x.usesLeft(0));
        x.measure(0, 2, 100);
        Check.is("22: never below 0", 0, () -> x.usesLeft(0));
        Check.is("18: used 31 times", 31, () -> x.usesOf(0));
        x.calibrate(0, 100);
        Check.is("21: calibrated", 0, () -> Check.of(x.isDue(0)));

        for (int i = 0; i < 5; i++) {
            x.endDay();
        }
        x.addTool(0, 0);
        for (int i = 0; i < 4; i++) {
            x.endDay();
        }
        Check.is("21: after 9 days", 0, () -> Check.of(x.isDue(0)));
        x.endDay();
        Check.is("21: after 10 days", 1, () -> Check.of(x.isDue(0)));
        Check.is("22: due by days, not by uses", 30, () -> x.usesLeft(0));
        Check.is("21: the tool that came later", 0, () -> Check.of(x.isDue(1)));
        for (int i = 0; i < 4; i++) {
            x.endDay();
        }
        Check.is("21: after 9 days of its own", 0, () -> Check.of(x.isDue(1)));
        x.endDay();
        Check.is("21: after 10 days of its own", 1, () -> Check.of(x.isDue(1)));
    }

    /** The day since which a tool is counted is kept and recorded, too. */
    private static void isDueAgain() {
        VernierDrawers x = new VernierDrawers();
        x.addBlock(100, 0);
        for (int i = 0; i < 5; i++) {
            x.endDay();
        }
        x.addTool(4, 0);
        x.keep();
        x.goBack();
        for (int i = 0; i < 9; i++) {
            x.endDay();
        }
        Check.is("69: after 9 days of its own", 0, () -> Check.of(x.isDue(0)));
        x.calibrate(0, 100);
        x.undo();
        x.endDay();
        Check.is("71: not calibrated, after 10 days", 1, () -> Check.of(x.isDue(0)));
        x.calibrate(0, 100);
        x.setWarmth(0);
        x.undo();
        x.endDay();
        Check.is("71: calibrated", 0, () -> Check.of(x.isDue(0)));
    }

    private static void stretchOf() {
        VernierDrawers x = new VernierDrawers();
        Check.is("24: at 20 degrees", 0, () -> x.stretchOf(2, 15000));
        x.setWarmth(50);
        Check.is("24: steel, 5.4", 5, () -> x.stretchOf(0, 15000));
        Check.is("24: brass, 8.55", 8, () -> x.stretchOf(1, 15000));
        Check.is("24: aluminium, 10.35", 10, () -> x.stretchOf(2, 15000));
        Check.is("24: length 0", 0, () -> x.stretchOf(2, 0));
        Check.is("24: 0.99981", 0, () -> x.stretchOf(2, 1449));
        Check.is("24: 1.0005", 1, () -> x.stretchOf(2, 1450));
        Check.is("24: steel, 4.99968", 4, () -> x.stretchOf(0, 13888));
        Check.is("24: steel, 5.00004", 5, () -> x.stretchOf(0, 13889));
        Check.is("24: brass, 7.99995", 7, () -> x.stretchOf(1, 14035));
        Check.is("24: brass, 8.00052", 8, () -> x.stretchOf(1, 14036));
        x.setWarmth(49);
        Check.is("24: aluminium, 3.999999", 3, () -> x.stretchOf(2, 5997));
        x.setWarmth(40);
        Check.is("24: steel, 3", 3, () -> x.stretchOf(0, 12500));
        x.setWarmth(-10);
        Check.is("24: steel, -5.4", -5, () -> x.stretchOf(0, 15000));
        Check.is("24: brass, -8.55", -8, () -> x.stretchOf(1, 15000));
        Check.is("24: aluminium, -10.35", -10, () -> x.stretchOf(2, 15000));
        Check.is("24: -0.99981", 0, () -> x.stretchOf(2, 1449));
        Check.is("24: -1.0005", -1, () -> x.stretchOf(2, 1450));
        Check.refuses("24: material -1", Check.ARGUMENT, () -> x.stretchOf(-1, 0));
        Check.refuses("24: material 3", Check.ARGUMENT, () -> x.stretchOf(3, 0));
        Check.refuses("24: length -1", Check.ARGUMENT, () -> x.stretchOf(0, -1));
        Check.refuses("24: length 15001", Check.ARGUMENT, () -> x.stretchOf(0, 15001));
        for (int far : FAR) {
            Check.refuses("24: far material", Check.ARGUMENT, () -> x.stretchOf(far, 0));
            Check.refuses("24: far length", Check.ARGUMENT, () -> x.stretchOf(0, far));
        }
    }

    /** Looks at one reading in all five ways. */
    private static void reads(VernierDrawers x, int tool, int length, int reading, int mark, int line) {
        String what = "tool " + tool + " at " + length;
        Check.is("25: " + what, reading, () -> x.readingFor(tool, 0, length));
        Check.is("26: " + what, reading, () -> x.readingByLooking(tool, 0, length));
        Check.is("27: " + what, mark, () -> x.markFor(tool, 0, length));
        Check.is("28: " + what, line, () -> x.lineFor(tool, 0, length));
        Check.is("29: " + what, Math.abs(reading - length), () -> x.offBy(tool, 0, length));
    }

    private static void readings() {
        VernierDrawers x = new VernierDrawers();
        for (int kind = 0; kind < 5; kind++) {
            x.addTool(kind, 0);
        }
        reads(x, 0, 0, 0, 0, 0);
        reads(x, 0, 4, 0, 0, 0);
        reads(x, 0, 5, 10, 0, 1);
        reads(x, 0, 1234, 1230, 12, 3);
        reads(x, 0, 1235, 1240, 12, 4);
        reads(x, 0, 1295, 1300, 13, 0);
        reads(x, 0, 14999, 15000, 150, 0);
        reads(x, 0, 15000, 15000, 150, 0);
        reads(x, 1, 1232, 1230, 12, 6);
        reads(x, 1, 1233, 1235, 12, 7);
        reads(x, 1, 98, 100, 1, 0);
        reads(x, 1, 1395, 1395, 13, 19);
        reads(x, 0, 1391, 1390, 13, 9);
        reads(x, 2, 1398, 1398, 13, 49);
        reads(x, 2, 1234, 1234, 12, 17);
        reads(x, 2, 1235, 1236, 12, 18);
        reads(x, 2, 99, 100, 1, 0);
        reads(x, 3, 1249, 1249, 24, 49);
        reads(x, 3, 1250, 1250, 25, 0);
        reads(x, 3, 2500, 2500, 50, 0);
        reads(x, 4, 1299, 1299, 12, 99);
        reads(x, 4, 2500, 2500, 25, 0);

        int[] greatest = {15000, 15000, 15000, 2500, 2500};
        for (int kind = 0; kind < 5; kind++) {
            VernierDrawers z = new VernierDrawers();
            z.addTool(kind, 0);
            z.addTool(kind, 1);
            reads(z, 0, greatest[kind], greatest[kind], greatest[kind] / (kind == 3 ? 50 : 100), 0);
            reads(z, 1, greatest[kind] - 1, greatest[kind], greatest[kind] / (kind == 3 ? 50 : 100), 0);
            allReadingsRefused(z, Check.ELEMENT, 1, 0, greatest[kind]);
        }

        VernierDrawers y = new VernierDrawers();
        y.addTool(4, -7);
        y.addTool(4, 12);
        reads(y, 0, 100, 93, 0, 93);
        reads(y, 1, 100, 112, 1, 12);
        y.addBlock(200, 0);
        y.calibrate(1, 200);
        Check.is("29: the known error is taken off", 0, () -> y.offBy(1, 0, 100));
        Check.is("25: but not of the reading", 112, () -> y.readingFor(1, 0, 100));
        y.setWarmth(50);
        Check.is("25: steel does not stretch more than the tool", 2012, () -> y.readingFor(1, 0, 2000));
        Check.is("25: brass, 1 more", 2013, () -> y.readingFor(1, 1, 2000));
        Check.is("25: each stretch is cut off for itself", 2453, () -> y.readingFor(1, 2, 2440));
        y.setWarmth(0);
        Check.is("25: brass in the cold is as long", 2012, () -> y.readingFor(1, 1, 2000));
        y.setWarmth(-10);
        Check.is("25: aluminium in the cold, 1 less", 2011, () -> y.readingFor(1, 2, 2000));
    }

    private static void readingsRefused() {
        VernierDrawers x = new VernierDrawers();
        x.addTool(4, -5);
        int[][] wrong = {{-1, 0, 100}, {1, 0, 100}, {0, -1, 100}, {0, 3, 100}, {0, 0, -1}, {0, 0, 15001},
            {Integer.MIN_VALUE, 0, 0}, {Integer.MAX_VALUE, 0, 0}, {0, Integer.MIN_VALUE, 0},
            {0, Integer.MAX_VALUE, 0}, {0, 0, Integer.MIN_VALUE}, {0, 0, Integer.MAX_VALUE}};
        for (int[] w : wrong) {
            allReadingsRefused(x, Check.ARGUMENT, w[0], w[1], w[2]);
        }
        allReadingsRefused(x, Check.ELEMENT, 0, 0, 4);
        allReadingsRefused(x, Check.ELEMENT, 0, 0, 2506);
        allReadingsRefused(x, Check.ELEMENT, 0, 0, 15000);
        allReadingsRefused(x, Check.ELEMENT, 0, 2, 0);
        reads(x, 0, 5, 0, 0, 0);
        reads(x, 0, 2505, 2500, 25, 0);
        allReadingsRefused(new VernierDrawers(), Check.ARGUMENT, 0, 0, 0);
    }

    private static void allReadingsRefused(VernierDrawers x, Class<?> due, int tool, int material, int length) {
        String what = tool + ", " + material + ", " + length;
        Check.refuses("25: " + what, due, () -> x.readingFor(tool, material, length));
        Check.refuses("26: " + what, due, () -> x.readingByLooking(tool, material, length));
        Check.refuses("27: " + what, due, () -> x.markFor(tool, material, length));
        Check.refuses("28: " + what, due, () -> x.lineFor(tool, material, length));
        Check.refuses("29: " + what, due, () -> x.offBy(tool, material, length));
    }

    private static void blocks() {
        VernierDrawers x = new VernierDrawers();
        Check.is("30: none", 0, x::blocks);
        Check.refuses("31: none", Check.ARGUMENT, () -> x.blockLength(0));
        x.addBlock(7, -3);
        x.addBlock(5000, 2);
        Check.is("30: two", 2, x::blocks);
        Check.is("31: the first", 7, () -> x.blockLength(0));
        Check.is("31: the second", 5000, () -> x.blockLength(1));
        Check.is("32: the first", -3, () -> x.blockError(0));
        Check.is("32: the second", 2, () -> x.blockError(1));
        for (int wrong : new int[] {-1, 2, 10, Integer.MIN_VALUE, Integer.MAX_VALUE}) {
            Check.refuses("31: block " + wrong, Check.ARGUMENT, () -> x.blockLength(wrong));
            Check.refuses("32: block " + wrong, Check.ARGUMENT, () -> x.blockError(wrong));
        }
    }

    /** Looks at one stack in all four ways. */
    private static void stacks(VernierDrawers x, int length, int fewest, int set, int truly) {
        Check.is("33: " + length, fewest, () -> x.fewestBlocks(length));
        Check.is("34: " + length, fewest, () -> x.fewestByTrying(length));
        Check.is("35: " + length, set, () -> x.stackFor(length));
        Check.is("36: " + length, truly, () -> x.trueLength(length));
    }

    private static void stacks() {
        VernierDrawers x = new VernierDrawers();
        x.addBlock(100, 1);
        x.addBlock(200, 2);
        x.addBlock(300, -1);
        x.addBlock(300, 3);
        x.addBlock(400, 0);
        stacks(x, 100, 1, 1, 101);
        stacks(x, 300, 1, 4, 299);
        stacks(x, 500, 2, 6, 501);
        stacks(x, 600, 2, 12, 602);
        stacks(x, 700, 2, 20, 699);
        stacks(x, 800, 3, 14, 805);
        stacks(x, 900, 3, 22, 902);
        stacks(x, 1200, 4, 30, 1205);
        stacks(x, 1300, 5, 31, 1307);
        x.addBlock(64, 0);
        x.addBlock(64, 0);
        stacks(x, 64, 1, 32, 64);
        stacks(x, 128, 2, 96, 128);
        stacks(x, 164, 2, 33, 165);
        stacks(x, 1264, 5, 62, 1270);
        allStacksRefused(x, Check.ELEMENT, 1364);

        VernierDrawers v = new VernierDrawers();
        v.addBlock(63, 0);
        v.addBlock(1, 0);
        v.addBlock(64, 0);
        stacks(v, 63, 1, 1, 63);
        stacks(v, 64, 1, 4, 64);
        stacks(v, 65, 2, 6, 65);
        stacks(v, 127, 2, 5, 127);
        stacks(v, 128, 3, 7, 129);
        VernierDrawers u = new VernierDrawers();
        u.addBlock(63, 0);
        u.addBlock(1, 0);
        stacks(u, 64, 2, 3, 64);

        VernierDrawers y = new VernierDrawers();
        for (int i = 0; i < 10; i++) {
            y.addBlock(5000, 0);
        }
        stacks(y, 15000, 3, 7, 15001);
        stacks(y, 10000, 2, 3, 10000);
        VernierDrawers z = new VernierDrawers();
        for (int i = 0; i < 10; i++) {
            z.addBlock(1 << i, 0);
        }
        stacks(z, 31, 5, 31, 33);
        stacks(z, 1023 - 31, 5, 1023 - 31, 994);
        allStacksRefused(z, Check.ELEMENT, 63);
        allStacksRefused(z, Check.ELEMENT, 1023);
        stacks(z, 512, 1, 512, 512);
    }

    private static void stacksRefused() {
        VernierDrawers x = new VernierDrawers();
        allStacksRefused(x, Check.ELEMENT, 1);
        x.addBlock(5000, 0);
        x.addBlock(4000, 0);
        x.addBlock(4999, 0);
        for (int wrong : new int[] {0, -1, 15001, Integer.MIN_VALUE, Integer.MAX_VALUE}) {
            allStacksRefused(x, Check.ARGUMENT, wrong);
        }
        for (int none : new int[] {1, 1000, 8000, 10000, 13998, 14000, 15000}) {
            allStacksRefused(x, Check.ELEMENT, none);
        }
        stacks(x, 13999, 3, 7, 14000);
    }

    private static void allStacksRefused(VernierDrawers x, Class<?> due, int length) {
        Check.refuses("33: " + length, due, () -> x.fewestBlocks(length));
        Check.refuses("34: " + length, due, () -> x.fewestByTrying(length));
        Check.refuses("35: " + length, due, () -> x.stackFor(length));
        Check.refuses("36: " + length, due, () -> x.trueLength(length));
    }

    private static void stackable() {
        VernierDrawers x = new VernierDrawers();
        Check.is("37: no blocks", 0, x::stackable);
        x.addBlock(100, 0);
        Check.is("37: one", 1, x::stackable);
        x.addBlock(100, 0);
        Check.is("37: two of one length", 2, x::stackable);
        x.addBlock(5000, 0);
        Check.is("37: 100, 200, 5000, 5100, 5200", 5, x::stackable);
        x.addBlock(5000, 0);
        Check.is("37: and 10000, 10100, 10200", 8, x::stackable);
        x.addBlock(4800, 0);
        Check.is("37: and seven with 4800, up to 15000", 15, x::stackable);
        x.undo();
        Check.is("37: undone", 8, x::stackable);

        VernierDrawers v = new VernierDrawers();
        v.addBlock(5000, 0);
        v.addBlock(5000, 0);
        v.addBlock(5000, 0);
        v.addBlock(1, 0);
        Check.is("37: 15000, but not 15001", 6, v::stackable);

        VernierDrawers y = new VernierDrawers();
        for (int i = 0; i < 10; i++) {
            y.addBlock(1 << i, 0);
        }
        Check.is("37: all sets of 1 to 5 of 10", 10 + 45 + 120 + 210 + 252, y::stackable);
        VernierDrawers w = new VernierDrawers();
        w.addBlock(5000, 0);
        w.addBlock(4999, 0);
        w.addBlock(4998, 0);
        w.addBlock(3, 0);
        w.addBlock(19, 0);
        Check.is("37: 14997, 15000, but not 15016 and 15019", 29, w::stackable);
        Check.is("33: 15000", 4, () -> w.fewestBlocks(15000));

        VernierDrawers z = new VernierDrawers();
        for (int i = 0; i < 10; i++) {
            z.addBlock(1, 0);
        }
        Check.is("37: ten of one length", 5, z::stackable);
    }
}
