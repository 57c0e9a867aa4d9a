/** Promises 8 to 12, 38 to 48 and 61 to 67: types, pieces and their accounts. */
public final class BenchTest {
    private static final int[] FAR = {Integer.MIN_VALUE, Integer.MAX_VALUE};

    public static void main(String[] args) {
        addType();
        addTypeFull();
        bring();
        judgeResults();
        judgeDoubts();
        judgeMeasures();
        judgeUses();
        whyNotJudge();
        wouldJudge();
        bestTool();
        file();
        fileRefused();
        passUnseen();
        passOfTwoTypes();
        types();
        places();
        accounts();
        goodShare();
        longQueue();
        Check.end();
    }

    private static VernierDrawers withScrew() {
        VernierDrawers x = new VernierDrawers();
        x.addTool(4, 0);
        return x;
    }

    private static void addType() {
        VernierDrawers x = new VernierDrawers();
        int[][] wrong = {{99, 0, 0, 0}, {14001, 0, 0, 0}, {100, -100, 0, 0}, {100, 1, 1, 0}, {100, 0, -1, 0},
            {100, 0, 100, 0}, {100, 0, 0, -1}, {100, 0, 0, 3}};
        for (int[] w : wrong) {
            Check.refuses("8: " + w[0] + ", " + w[1] + ", " + w[2] + ", " + w[3], Check.ARGUMENT,
                    () -> x.addType(w[0], w[1], w[2], w[3]));
        }
        for (int far : FAR) {
            Check.refuses("8: far length", Check.ARGUMENT, () -> x.addType(far, 0, 0, 0));
            Check.refuses("8: far lower", Check.ARGUMENT, () -> x.addType(100, far, 0, 0));
            Check.refuses("8: far upper", Check.ARGUMENT, () -> x.addType(100, 0, far, 0));
            Check.refuses("8: far material", Check.ARGUMENT, () -> x.addType(100, 0, 0, far));
        }
        Check.is("38: no type came", 0, x::types);
        Check.is("8: no change was made", 0, x::states);
        Check.is("8: the least one", 0, () -> x.addType(100, 0, 0, 0));
        Check.is("8: the greatest one", 1, () -> x.addType(14000, -99, 99, 2));
        Check.is("8: a third", 2, () -> x.addType(200, -1, 2, 1));
        Check.is("38: three", 3, x::types);
        Check.is("8: three changes", 3, x::states);
        x.undo();
        Check.is("38: undone", 2, x::types);
    }

    private static void addTypeFull() {
        VernierDrawers x = new VernierDrawers();
        for (int i = 0; i < 5; i++) {
            int number = i;
            Check.is("8: type " + i, i, () -> x.addType(100 + number, -number, number, 0));
        }
        Check.refuses("8: a sixth", Check.STATE, () -> x.addType(100, 0, 0, 0));
        Check.refuses("8: a wrong sixth", Check.ARGUMENT, () -> x.addType(99, 0, 0, 0));
        Check.is("38: five", 5, x::types);
        for (int i = 0; i < 5; i++) {
            int number = i;
            Check.is("39: type " + i, 100 + i, () -> x.lengthOf(number));
            Check.is("40: type " + i, 2 * i, () -> x.widthOf(number));
        }
    }

    private static void bring() {
        VernierDrawers x = new VernierDrawers();
        Check.refuses("9: no type", Check.ARGUMENT, () -> x.bring(0, 0));
        x.addType(100, -9, 9, 0);
        x.addType(300, -9, 9, 0);
        x.addType(200, -9, 9, 0);
        Check.refuses("9: type -1", Check.ARGUMENT, () -> x.bring(-1, 0));
        Check.refuses("9: type 3", Check.ARGUMENT, () -> x.bring(3, 0));
        Check.refuses("9: deviation -201", Check.ARGUMENT, () -> x.bring(1, -201));
        Check.refuses("9: deviation 201", Check.ARGUMENT, () -> x.bring(1, 201));
        Check.refuses("9: length 0", Check.ARGUMENT, () -> x.bring(0, -100));
        Check.refuses("9: length 0 of the third", Check.ARGUMENT, () -> x.bring(2, -200));
        for (int far : FAR) {
            Check.refuses("9: far type", Check.ARGUMENT, () -> x.bring(far, 0));
            Check.refuses("9: far deviation", Check.ARGUMENT, () -> x.bring(0, far));
        }
        Check.is("9: no piece came", 0, x::onBench);
        Check.is("61: none", 0, x::brought);
        Check.is("9: no change was made", 3, x::states);
        Check.is("9: length 1", 1, () -> x.bring(0, -99));
        Check.is("9: deviation -200", 2, () -> x.bring(1, -200));
        Check.is("9: deviation 200", 3, () -> x.bring(0, 200));
        for (int i = 4; i <= 20; i++) {
            Check.is("9: piece " + i, i, () -> x.bring(2, 0));
        }
        Check.refuses("9: piece 21", Check.STATE, () -> x.bring(0, 0));
        Check.refuses("9: a wrong piece 21", Check.ARGUMENT, () -> x.bring(0, 201));
        Check.is("41: twenty", 20, x::onBench);
        Check.is("61: twenty", 20, x::brought);
        x.undo();
        Check.is("41: undone", 19, x::onBench);
        Check.is("61: undone", 19, x::brought);
    }

    private static void judgeResults() {
        VernierDrawers x = withScrew();
        x.addType(1000, -20, 30, 0);
        int[][] pieces = {{0, 0}, {29, 0}, {31, 1}, {200, 1}, {-19, 0}, {-21, 2}, {-200, 2}};
        for (int[] p : pieces) {
            x.bring(0, p[0]);
            Check.is("10: deviation " + p[0], p[1], () -> x.judge(0));
        }
        Check.is("63: good ones", 3, x::good);
        Check.is("64: thrown away", 2, x::thrownAway);
        Check.is("44: to be filed", 2, x::toFile);
        Check.is("66: no doubts", 0, x::doubts);
        Check.is("41: none is left", 0, x::onBench);
        Check.refuses("10: no piece", Check.STATE, () -> x.judge(0));
        Check.refuses("10: no such tool", Check.ARGUMENT, () -> x.judge(1));
        Check.refuses("10: tool -1", Check.ARGUMENT, () -> x.judge(-1));
        for (int far : FAR) {
            Check.refuses("10: far tool", Check.ARGUMENT, () -> x.judge(far));
        }
        x.undo();
        Check.is("64: undone", 1, x::thrownAway);
        Check.is("41: it is there again", 1, x::onBench);
    }

    private static void judgeDoubts() {
        VernierDrawers x = withScrew();
        x.addTool(2, 0);
        x.addType(1000, -20, 30, 2);
        x.bring(0, 30);
        x.bring(0, -20);
        x.bring(0, 0);
        Check.is("10: at the upper limit", 3, () -> x.judge(0));
        Check.is("66: one doubt", 1, x::doubts);
        Check.is("41: it stays on the bench", 3, x::onBench);
        Check.is("43: at its end", 1, () -> Check.of(x.wasDoubted(2)));
        Check.is("10: at the lower limit", 3, () -> x.judge(0));
        Check.is("43: not the first one", 0, () -> Check.of(x.wasDoubted(0)));
        Check.is("10: in the middle", 0, () -> x.judge(0));
        Check.is("43: then the doubted one is ahead", 1, () -> Check.of(x.wasDoubted(0)));
        Check.is("10: the upper limit is good", 0, () -> x.judge(0));
        Check.is("10: the lower limit is good", 0, () -> x.judge(0));
        Check.is("66: two doubts", 2, x::doubts);
        Check.is("18: doubting is a use", 5, () -> x.usesOf(0));
        Check.is("53: doubts are no results", 3, () -> x.charted(0));
        Check.is("50: doubts are no results", 3, () -> x.recordOf(0));

        int[][] byTwo = {{32, 1}, {31, 1}, {29, 3}, {28, 0}, {27, 0}, {-18, 0}, {-19, 0}, {-20, 3}, {-21, 3},
            {-22, 2}, {-23, 2}};
        for (int[] p : byTwo) {
            x.bring(0, p[0]);
            Check.is("46: step 2, deviation " + p[0], p[1], () -> x.wouldJudge(1));
            x.undo();
        }
        x.bring(0, 30);
        Check.is("10: step 2, at the limit", 3, () -> x.judge(1));
        Check.is("10: doubted by one tool, judged by another", 0, () -> x.judge(0));
        x.addType(1000, -2, 8, 0);
        x.bring(1, -2);
        Check.is("10: less than a step from the lower one alone", 3, () -> x.judge(1));
        Check.is("10: a doubted one is not doubted once more", 0, () -> x.judge(1));
    }

    private static void judgeMeasures() {
        VernierDrawers x = withScrew();
        x.addTool(4, 5);
        x.addBlock(1000, 2);
        x.addType(1000, -9, 9, 2);
        x.bring(0, 3);
        x.judge(1);
        Check.is("10: measured with the error at zero", 8, () -> x.chartedAt(0, 0));
        x.calibrate(1, 1000);
        x.bring(0, 3);
        x.judge(1);
        Check.is("10: less the known error", 1, () -> x.chartedAt(0, 1));
        x.setWarmth(50);
        x.addType(2000, -9, 9, 2);
        x.bring(1, 3);
        x.judge(0);
        Check.is("10: with the stretch of its material, 1", 4, () -> x.chartedAt(1, 0));
        x.addType(2000, -9, 9, 0);
        x.bring(2, 3);
        x.judge(0);
        Check.is("10: steel stretches as the tool", 3, () -> x.chartedAt(2, 0));
        x.addTool(1, 0);
        x.addType(1000, -20, 30, 0);
        x.bring(3, 3);
        x.judge(2);
        Check.is("10: by steps of 5", 5, () -> x.chartedAt(3, 0));
    }

    private static void judgeUses() {
        int[] judgedUntilWorn = {7, 10, 20};
        for (int material = 0; material < 3; material++) {
            VernierDrawers x = withScrew();
            x.addType(1000, -99, 99, material);
            for (int i = 1; i < judgedUntilWorn[material]; i++) {
                x.bring(0, 50);
                x.judge(0);
            }
            Check.is("10: not worn yet, " + material, 0, () -> x.wearOf(0));
            x.bring(0, 50);
            x.judge(0);
            Check.is("10: worn by judging, " + material, 1, () -> x.wearOf(0));
            int last = Math.min(12, judgedUntilWorn[material]) - 1;
            Check.is("10: behind the reading, " + material, 50, () -> x.chartedAt(0, last));
        }
    }

    private static void whyNotJudge() {
        VernierDrawers x = new VernierDrawers();
        Check.refuses("45: no tool", Check.ARGUMENT, () -> x.whyNotJudge(0));
        x.addTool(0, 0);
        Check.refuses("45: tool -1", Check.ARGUMENT, () -> x.whyNotJudge(-1));
        Check.refuses("45: tool 1", Check.ARGUMENT, () -> x.whyNotJudge(1));
        Check.is("45: no piece", 1, () -> x.whyNotJudge(0));
        x.addType(1000, -25, 24, 0);
        x.addType(1000, -25, 25, 0);
        x.addType(14000, 0, 5, 0);
        x.bring(0, 0);
        Check.is("45: too coarse by 1", 3, () -> x.whyNotJudge(0));
        Check.refuses("10: too coarse", Check.STATE, () -> x.judge(0));
        x.undo();
        x.bring(1, 0);
        Check.is("45: just fine enough", 0, () -> x.whyNotJudge(0));
        x.undo();
        x.bring(2, 0);
        x.addTool(4, 0);
        x.addTool(2, 0);
        Check.is("45: cannot be read", 4, () -> x.whyNotJudge(1));
        Check.refuses("10: cannot be read", Check.STATE, () -> x.judge(1));
        Check.is("45: coarse ahead of that", 3, () -> x.whyNotJudge(2));
        Check.write(x, "m0,9;m1,9;m2,9;m0,9;m1,9;m2,9;m0,9;m1,9;m2,9;");
        Check.playTimes(x, 9);
        Check.is("45: 27 uses are no reason", 4, () -> x.whyNotJudge(1));
        x.play();
        Check.is("45: due ahead of not to be read", 2, () -> x.whyNotJudge(1));
        Check.is("45: due ahead of too coarse", 2, () -> x.whyNotJudge(2));
        Check.refuses("10: due", Check.STATE, () -> x.judge(2));
        Check.is("10: refused ones are no use", 30, () -> x.usesOf(2));

        VernierDrawers y = withScrew();
        y.addType(2500, -9, 9, 0);
        y.bring(0, 0);
        Check.is("45: the greatest mark", 0, () -> y.whyNotJudge(0));
        y.undo();
        y.bring(0, 1);
        Check.is("45: above the greatest mark", 4, () -> y.whyNotJudge(0));
        Check.write(y, "d;d;d;d;d;d;d;d;d;d;");
        y.play();
        Check.is("45: due by days", 2, () -> y.whyNotJudge(0));
        VernierDrawers z = withScrew();
        Check.write(z, "d;d;d;d;d;d;d;d;d;d;");
        z.play();
        Check.is("45: no piece ahead of due", 1, () -> z.whyNotJudge(0));
    }

    private static void wouldJudge() {
        VernierDrawers x = new VernierDrawers();
        Check.refuses("46: no tool", Check.ARGUMENT, () -> x.wouldJudge(0));
        x.addTool(4, 0);
        x.addTool(0, 0);
        Check.refuses("46: no piece", Check.ELEMENT, () -> x.wouldJudge(0));
        Check.refuses("46: tool -1", Check.ARGUMENT, () -> x.wouldJudge(-1));
        Check.refuses("46: tool 2", Check.ARGUMENT, () -> x.wouldJudge(2));
        x.addType(1000, -10, 10, 0);
        int[][] pieces = {{0, 0}, {11, 1}, {-11, 2}, {10, 3}};
        for (int[] p : pieces) {
            x.bring(0, p[0]);
            Check.is("46: deviation " + p[0], p[1], () -> x.wouldJudge(0));
            Check.refuses("46: too coarse", Check.ELEMENT, () -> x.wouldJudge(1));
            Check.is("46: judging tells the same", p[1], () -> x.judge(0));
        }
        Check.is("46: asking is no use", 4, () -> x.usesOf(0));
        Check.is("46: a doubted piece", 0, () -> x.wouldJudge(0));
        x.judge(0);
        x.bring(0, -10);
        Check.is("46: deviation -10", 3, () -> x.wouldJudge(0));
    }

    private static void bestTool() {
        VernierDrawers x = new VernierDrawers();
        Check.refuses("47: nothing there", Check.ELEMENT, x::bestTool);
        x.addType(1000, -5, 5, 0);
        x.addType(5000, -30, 30, 0);
        x.addType(5000, 0, 4, 0);
        x.bring(0, 0);
        Check.refuses("47: no tool", Check.ELEMENT, x::bestTool);
        x.addTool(0, 0);
        Check.refuses("47: a coarse tool", Check.ELEMENT, x::bestTool);
        x.addTool(2, 0);
        Check.is("47: just fine enough", 1, x::bestTool);
        x.addTool(2, 0);
        Check.is("47: of two the lower one", 1, x::bestTool);
        x.addTool(3, 0);
        Check.is("47: the finest", 3, x::bestTool);
        x.addTool(4, 0);
        Check.is("47: of two as fine the lower one", 3, x::bestTool);
        Check.write(x, "m3,9;m3,9;m3,9;m3,9;m3,9;m3,9;m3,9;m3,9;m3,9;m3,9;");
        Check.playTimes(x, 3);
        Check.is("47: not one that is due", 4, x::bestTool);
        x.judge(4);
        x.bring(1, 0);
        Check.is("47: not one that cannot be read", 1, x::bestTool);
        x.judge(1);
        Check.refuses("47: no piece", Check.ELEMENT, x::bestTool);
        x.bring(2, 0);
        Check.refuses("47: all too coarse, or not to be read", Check.ELEMENT, x::bestTool);

        VernierDrawers y = withScrew();
        y.addTool(0, 0);
        y.addTool(4, 0);
        y.addType(1000, -30, 30, 0);
        y.bring(0, 0);
        Check.is("47: the first tool", 0, y::bestTool);
        y.setWarmth(50);
        Check.is("47: two as fine and a coarse one", 0, y::bestTool);
    }

    private static void file() {
        VernierDrawers x = withScrew();
        x.addType(1000, -9, 9, 0);
        x.addType(100, -9, 9, 0);
        x.bring(0, 50);
        x.bring(1, 110);
        x.bring(0, 9);
        x.judge(0);
        x.judge(0);
        x.judge(0);
        Check.is("43: a doubted piece", 1, () -> Check.of(x.wasDoubted(0)));
        Check.is("44: two", 2, x::toFile);
        Check.is("11: the first one", 49, () -> x.file(1));
        Check.is("44: one", 1, x::toFile);
        Check.is("42: at the end of the bench", 0, () -> x.typeAt(1));
        Check.is("43: filed, not doubted", 0, () -> Check.of(x.wasDoubted(1)));
        Check.is("11: the second one", 11, () -> x.file(99));
        Check.is("42: at the end of the bench", 1, () -> x.typeAt(2));
        Check.is("61: filed ones are not counted", 3, x::brought);
        Check.is("62: nor by places", 3, x::broughtByPlaces);
        Check.is("10: the doubted one is good", 0, () -> x.judge(0));
        Check.is("10: still too long", 1, () -> x.judge(0));
        Check.is("11: filed once more", -10, () -> x.file(59));
        Check.is("10: the second one, too", 1, () -> x.judge(0));
        Check.is("10: filed too much", 2, () -> x.judge(0));
        Check.is("11: to the limit, as the worn tool shows it", 10, () -> x.file(1));
        Check.is("10: a filed one is doubted", 3, () -> x.judge(0));
        x.undo();
        x.undo();
        Check.is("44: undone", 1, x::toFile);
    }

    private static void fileRefused() {
        VernierDrawers x = withScrew();
        x.addType(100, -9, 0, 0);
        Check.refuses("11: none", Check.STATE, () -> x.file(1));
        Check.refuses("11: none, and amount 0", Check.ARGUMENT, () -> x.file(0));
        x.bring(0, -1);
        x.addTool(4, 5);
        Check.is("10: too long by the error", 1, () -> x.judge(1));
        Check.refuses("11: amount 0", Check.ARGUMENT, () -> x.file(0));
        Check.refuses("11: amount -1", Check.ARGUMENT, () -> x.file(-1));
        Check.refuses("11: amount 100", Check.ARGUMENT, () -> x.file(100));
        for (int far : FAR) {
            Check.refuses("11: far amount", Check.ARGUMENT, () -> x.file(far));
        }
        Check.refuses("11: length 0", Check.STATE, () -> x.file(99));
        Check.is("44: it stays", 1, x::toFile);
        Check.is("11: length 1", -99, () -> x.file(98));
        x.undo();
        for (int i = 0; i < 20; i++) {
            x.bring(0, 0);
        }
        Check.refuses("11: 20 on the bench", Check.STATE, () -> x.file(1));
        Check.refuses("11: 20 on the bench, and amount 100", Check.ARGUMENT, () -> x.file(100));
        x.undo();
        Check.is("11: 19 on the bench", -2, () -> x.file(1));
        Check.is("41: 20 then", 20, x::onBench);
    }

    /** Brings so many pieces without a deviation and judges them. */
    private static void goodOnes(VernierDrawers x, int type, int many) {
        for (int i = 0; i < many; i++) {
            x.bring(type, 0);
            x.judge(0);
        }
    }

    private static void passUnseen() {
        VernierDrawers x = withScrew();
        x.addType(1000, -20, 20, 2);
        Check.is("48: no piece", 1, x::whyNotPass);
        Check.refuses("12: no piece", Check.STATE, x::passUnseen);
        goodOnes(x, 0, 9);
        x.bring(0, 0);
        Check.is("48: not loosely", 2, x::whyNotPass);
        Check.refuses("12: not loosely", Check.STATE, x::passUnseen);
        x.judge(0);
        Check.is("48: loosely, but no piece", 1, x::whyNotPass);
        x.bring(0, 200);
        Check.is("48: passes", 0, x::whyNotPass);
        Check.is("12: its type", 0, x::passUnseen);
        Check.is("65: one", 1, x::unseen);
        Check.is("41: it is gone", 0, x::onBench);
        Check.is("50: no result", 0, () -> x.recordOf(0));
        Check.is("53: not charted", 10, () -> x.charted(0));
        Check.is("48: no piece ahead of the one before", 1, x::whyNotPass);
        x.bring(0, 20);
        Check.is("48: the one before passed", 3, x::whyNotPass);
        Check.refuses("12: the one before passed", Check.STATE, x::passUnseen);
        Check.is("10: doubted", 3, () -> x.judge(0));
        Check.is("48: a doubt is no result", 3, x::whyNotPass);
        Check.is("10: good", 0, () -> x.judge(0));
        x.bring(0, 0);
        Check.is("48: passes again", 0, x::whyNotPass);
        x.passUnseen();
        Check.is("65: two", 2, x::unseen);
        x.undo();
        Check.is("65: undone", 1, x::unseen);
        Check.is("48: undone", 0, x::whyNotPass);
        x.passUnseen();
        x.bring(0, 21);
        Check.is("10: bad", 1, () -> x.judge(0));
        x.bring(0, 0);
        Check.is("48: plainly from then on", 2, x::whyNotPass);
    }

    private static void passOfTwoTypes() {
        VernierDrawers x = withScrew();
        x.addType(1000, -20, 20, 2);
        x.addType(900, -20, 20, 2);
        x.addBlock(500, 0);
        goodOnes(x, 0, 10);
        goodOnes(x, 1, 10);
        x.calibrate(0, 500);
        for (int type : new int[] {0, 1, 0, 1, 1, 0}) {
            x.bring(type, 0);
        }
        Check.is("12: the first type", 0, x::passUnseen);
        Check.is("48: the other type is told for itself", 0, x::whyNotPass);
        Check.is("12: the second type", 1, x::passUnseen);
        Check.is("48: the first type once more", 3, x::whyNotPass);
        x.judge(0);
        Check.is("48: the second type has not been judged", 3, x::whyNotPass);
        x.judge(0);
        Check.is("48: then it has", 0, x::whyNotPass);
        Check.is("12: the second type again", 1, x::passUnseen);
        Check.is("12: the first type again", 0, x::passUnseen);
        Check.is("65: four", 4, x::unseen);
        Check.is("62: by places", 26, x::broughtByPlaces);
    }

    private static void types() {
        VernierDrawers x = new VernierDrawers();
        Check.is("38: none", 0, x::types);
        Check.refuses("39: none", Check.ARGUMENT, () -> x.lengthOf(0));
        Check.refuses("40: none", Check.ARGUMENT, () -> x.widthOf(0));
        x.addType(14000, -99, 99, 0);
        x.addType(100, 0, 0, 0);
        Check.is("39: the first", 14000, () -> x.lengthOf(0));
        Check.is("40: the first", 198, () -> x.widthOf(0));
        Check.is("39: the second", 100, () -> x.lengthOf(1));
        Check.is("40: the second", 0, () -> x.widthOf(1));
        for (int wrong : new int[] {-1, 2, 5, Integer.MIN_VALUE, Integer.MAX_VALUE}) {
            Check.refuses("39: type " + wrong, Check.ARGUMENT, () -> x.lengthOf(wrong));
            Check.refuses("40: type " + wrong, Check.ARGUMENT, () -> x.widthOf(wrong));
        }
    }

    private static void places() {
        VernierDrawers x = withScrew();
        Check.is("41: none", 0, x::onBench);
        Check.refuses("42: none", Check.ELEMENT, () -> x.typeAt(0));
        Check.refuses("43: none", Check.ELEMENT, () -> Check.of(x.wasDoubted(0)));
        x.addType(100, -20, 20, 0);
        x.addType(100, -20, 20, 0);
        x.addType(100, -20, 20, 0);
        x.bring(2, 0);
        x.bring(0, 20);
        x.bring(1, 0);
        Check.is("42: the first", 2, () -> x.typeAt(0));
        Check.is("42: the second", 0, () -> x.typeAt(1));
        Check.is("42: the third", 1, () -> x.typeAt(2));
        x.judge(0);
        Check.is("41: two", 2, x::onBench);
        Check.is("42: moved up", 0, () -> x.typeAt(0));
        x.judge(0);
        Check.is("42: moved up again", 1, () -> x.typeAt(0));
        Check.is("42: doubted, at the end", 0, () -> x.typeAt(1));
        Check.is("43: doubted, at the end", 1, () -> Check.of(x.wasDoubted(1)));
        Check.is("43: not this one", 0, () -> Check.of(x.wasDoubted(0)));
        for (int place : new int[] {2, 19, 20, Integer.MAX_VALUE}) {
            Check.refuses("42: place " + place, Check.ELEMENT, () -> x.typeAt(place));
            Check.refuses("43: place " + place, Check.ELEMENT, () -> Check.of(x.wasDoubted(place)));
        }
        for (int place : new int[] {-1, Integer.MIN_VALUE}) {
            Check.refuses("42: place " + place, Check.ARGUMENT, () -> x.typeAt(place));
            Check.refuses("43: place " + place, Check.ARGUMENT, () -> Check.of(x.wasDoubted(place)));
        }
    }

    private static void accounts() {
        VernierDrawers x = withScrew();
        Check.is("61: none", 0, x::brought);
        Check.is("62: none", 0, x::broughtByPlaces);
        Check.is("63: none", 0, x::good);
        Check.is("64: none", 0, x::thrownAway);
        Check.is("65: none", 0, x::unseen);
        Check.is("66: none", 0, x::doubts);
        x.addType(1000, -20, 20, 2);
        goodOnes(x, 0, 10);
        int[] deviations = {0, 0, 30, -30, 20, 0};
        for (int deviation : deviations) {
            x.bring(0, deviation);
        }
        x.passUnseen();
        for (int i = 0; i < 4; i++) {
            x.judge(0);
        }
        Check.is("61: sixteen", 16, x::brought);
        Check.is("62: sixteen", 16, x::broughtByPlaces);
        Check.is("63: eleven", 11, x::good);
        Check.is("64: one", 1, x::thrownAway);
        Check.is("65: one", 1, x::unseen);
        Check.is("66: one", 1, x::doubts);
        Check.is("44: one", 1, x::toFile);
        Check.is("41: two", 2, x::onBench);
        x.file(10);
        Check.is("61: filing brings none", 16, x::brought);
        Check.is("62: filing brings none", 16, x::broughtByPlaces);
    }

    private static void goodShare() {
        VernierDrawers x = withScrew();
        Check.refuses("67: none", Check.ELEMENT, x::goodShare);
        x.addType(1000, -20, 20, 2);
        x.bring(0, 20);
        x.judge(0);
        Check.refuses("67: a doubt is no result", Check.ELEMENT, x::goodShare);
        x.judge(0);
        Check.is("67: all", 1.0f, x::goodShare);
        x.bring(0, 30);
        x.judge(0);
        Check.is("67: one of two", 0.5f, x::goodShare);
        x.bring(0, -30);
        x.judge(0);
        Check.is("67: one of three", 1.0f / 3.0f, x::goodShare);
        x.file(15);
        x.judge(0);
        Check.is("67: a filed one is a result again", 0.5f, x::goodShare);
        VernierDrawers y = withScrew();
        y.addType(1000, -20, 20, 2);
        y.bring(0, 30);
        y.judge(0);
        Check.is("67: none is good", 0.0f, y::goodShare);
    }

    /** The queue of pieces to be filed has no limit: more than 3,000 of them wait, in their order. */
    private static void longQueue() {
        VernierDrawers x = withScrew();
        x.addBlock(99, 0);
        x.addType(500, -5, 0, 0);
        x.addType(600, -5, 0, 0);
        Check.type(x, "c0,99;p0,99;j0;p1,99;j0;p0,98;j0;p1,98;j0;p0,97;j0;");
        int plays = 440;
        Check.playTimes(x, plays);
        Check.is("44: all wait", 5.0 * plays, x::toFile);
        Check.is("62: all wait", 5.0 * plays, x::broughtByPlaces);
        Check.is("61: all came", 5.0 * plays, x::brought);
        int[] deviations = {98, 98, 97, 97, 96, 98};
        int[] types = {0, 1, 0, 1, 0, 0};
        for (int i = 0; i < deviations.length; i++) {
            int place = i;
            Check.is("11: in their order, " + i, deviations[i], () -> x.file(1));
            Check.is("42: in their order, " + i, types[i], () -> x.typeAt(place));
        }
        x.undo();
        Check.is("44: undone", 5.0 * plays - 5, x::toFile);
    }
}
