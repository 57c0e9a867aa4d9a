/** Promises 13, 14 and 49 to 59: records and charts. */
public final class RecordTest {
    public static void main(String[] args) {
        plainToStrict();
        plainStays();
        plainToLoose();
        strictToPlain();
        looseToPlain();
        manyTypes();
        goodUntilChange();
        charts();
        signalOfLimits();
        signalOfWays();
        signalOfSides();
        signalOfFarOnes();
        signalsTogether();
        middles();
        spreadAndMean();
        throwOut();
        setTolerance();
        noSuchType();
        Check.end();
    }

    /** A type of 1000 with these limits, and a tool that is told anew before it is worn. */
    private static VernierDrawers withType(int lower, int upper) {
        VernierDrawers x = new VernierDrawers();
        x.addTool(4, 0);
        x.addBlock(500, 0);
        x.addType(1000, lower, upper, 2);
        return x;
    }

    /** Brings pieces with these deviations and judges each until it is a result. */
    private static void results(VernierDrawers x, int... deviations) {
        for (int deviation : deviations) {
            x.bring(0, deviation);
            if (x.judge(0) == 3) {
                x.judge(0);
            }
            if (x.usesLeft(0) < 3) {
                x.calibrate(0, 500);
            }
        }
    }

    private static void record(VernierDrawers x, String what, int manner, int many, int bad) {
        Check.is("49: " + what, manner, () -> x.mannerOf(0));
        Check.is("50: " + what, many, () -> x.recordOf(0));
        Check.is("51: " + what, bad, () -> x.badOf(0));
    }

    private static void plainToStrict() {
        VernierDrawers x = withType(-20, 20);
        record(x, "at first", 0, 0, 0);
        results(x, 50);
        record(x, "one bad", 0, 1, 1);
        results(x, 50);
        record(x, "two bad", 1, 0, 0);
        VernierDrawers y = withType(-20, 20);
        results(y, 50, 0, 0, 0);
        record(y, "one bad of four", 0, 4, 1);
        results(y, -50);
        record(y, "two bad of five", 1, 0, 0);
        VernierDrawers z = withType(-20, 20);
        results(z, 0, 0, -50, 0, 50);
        record(z, "thrown away ones are bad", 1, 0, 0);
    }

    private static void plainStays() {
        VernierDrawers x = withType(-20, 20);
        results(x, 50, 0, 0, 0, 0, 50);
        record(x, "two bad of six", 0, 6, 2);
        results(x, 0, 0, 0, 0);
        record(x, "two bad of ten", 0, 10, 2);
        results(x, 0);
        record(x, "the first one is gone", 0, 10, 1);
        results(x, 50);
        record(x, "every sixth one is bad", 0, 10, 2);
        results(x, 0, 0, 0, 0);
        record(x, "ten, one is bad", 0, 10, 1);
        results(x, 0, 0, 0, 0, 0);
        record(x, "nine good ones at the end", 0, 10, 1);
        results(x, 0);
        record(x, "ten good ones at the end", 2, 0, 0);
    }

    private static void plainToLoose() {
        VernierDrawers x = withType(-20, 20);
        results(x, 0, 0, 0, 0, 0, 0, 0, 0, 0);
        record(x, "nine good ones", 0, 9, 0);
        results(x, 0);
        record(x, "ten good ones", 2, 0, 0);
        x.undo();
        record(x, "undone", 0, 9, 0);
    }

    private static void strictToPlain() {
        VernierDrawers x = withType(-20, 20);
        results(x, 50, 50, 0, 0, 0, 0);
        record(x, "four good ones", 1, 4, 0);
        results(x, 0);
        record(x, "five good ones", 0, 0, 0);
        VernierDrawers y = withType(-20, 20);
        results(y, 50, 50, 0, 0, 0, 0, 50, 0, 0, 0, 0);
        record(y, "a bad one among them", 1, 9, 1);
        results(y, 50, 0);
        record(y, "two bad ones", 1, 10, 2);
        results(y, 0, 0, 0);
        record(y, "four good ones at the end", 1, 10, 2);
        results(y, 0);
        record(y, "five good ones at the end", 0, 0, 0);
        VernierDrawers z = withType(-20, 20);
        results(z, 50, 50, 50, 50, 50, 50, 50, 50, 50, 50, 50, 50);
        record(z, "strictly, whatever is bad", 1, 10, 10);
    }

    private static void looseToPlain() {
        VernierDrawers x = withType(-20, 20);
        results(x, 0, 0, 0, 0, 0, 0, 0, 0, 0, 0, 0, 0);
        record(x, "loosely, two more", 2, 2, 0);
        results(x, 0, 0, 0, 0, 0, 0, 0, 0, 0);
        record(x, "loosely, never more than ten", 2, 10, 0);
        results(x, -50);
        record(x, "a bad one", 0, 0, 0);
        results(x, 50);
        record(x, "the bad one is not in the record", 0, 1, 1);
    }

    private static void manyTypes() {
        VernierDrawers x = withType(-20, 20);
        x.addType(2000, -20, 20, 0);
        x.bring(1, 50);
        x.judge(0);
        x.bring(1, 7);
        x.judge(0);
        results(x, 3);
        record(x, "the first type", 0, 1, 0);
        Check.is("50: the second type", 2, () -> x.recordOf(1));
        Check.is("51: the second type", 1, () -> x.badOf(1));
        Check.is("53: the first type", 1, () -> x.charted(0));
        Check.is("53: the second type", 2, () -> x.charted(1));
        Check.is("54: the first type", 3, () -> x.chartedAt(0, 0));
        Check.is("54: the second type", 7, () -> x.chartedAt(1, 1));
    }

    private static void goodUntilChange() {
        VernierDrawers x = withType(-20, 20);
        Check.is("52: at first", 10, () -> x.goodUntilChange(0));
        results(x, 0);
        Check.is("52: one good one", 9, () -> x.goodUntilChange(0));
        results(x, 50);
        Check.is("52: then a bad one", 10, () -> x.goodUntilChange(0));
        results(x, 0, 0);
        Check.is("52: then two good ones", 8, () -> x.goodUntilChange(0));
        results(x, 0, 0, 0, 0, 0, 0, 0);
        Check.is("52: nine good ones", 1, () -> x.goodUntilChange(0));
        results(x, 0);
        Check.refuses("52: loosely", Check.ELEMENT, () -> x.goodUntilChange(0));
        results(x, 0, 0);
        Check.refuses("52: loosely still", Check.ELEMENT, () -> x.goodUntilChange(0));
        results(x, 50);
        Check.is("52: plainly again", 10, () -> x.goodUntilChange(0));
        results(x, 50, 50);
        Check.is("52: strictly", 5, () -> x.goodUntilChange(0));
        results(x, 0, 0, 0, 0);
        Check.is("52: strictly, four good ones", 1, () -> x.goodUntilChange(0));
        results(x, 50);
        Check.is("52: strictly, then a bad one", 5, () -> x.goodUntilChange(0));
        results(x, 0);
        Check.is("52: strictly, a good one again", 4, () -> x.goodUntilChange(0));
        results(x, 0, 0, 0, 0);
        Check.is("52: plainly, emptied", 10, () -> x.goodUntilChange(0));
    }

    private static void charts() {
        VernierDrawers x = withType(-99, 99);
        Check.is("53: empty", 0, () -> x.charted(0));
        Check.refuses("54: empty", Check.ELEMENT, () -> x.chartedAt(0, 0));
        results(x, 5, -7, 200, 9);
        Check.is("53: four", 4, () -> x.charted(0));
        int[] due = {5, -7, 200, 9};
        for (int i = 0; i < due.length; i++) {
            int place = i;
            Check.is("54: place " + i, due[i], () -> x.chartedAt(0, place));
        }
        Check.refuses("54: place 4", Check.ELEMENT, () -> x.chartedAt(0, 4));
        Check.refuses("54: place 12", Check.ELEMENT, () -> x.chartedAt(0, 12));
        Check.refuses("54: a far place", Check.ELEMENT, () -> x.chartedAt(0, Integer.MAX_VALUE));
        Check.refuses("54: place -1", Check.ARGUMENT, () -> x.chartedAt(0, -1));
        Check.refuses("54: a far place below", Check.ARGUMENT, () -> x.chartedAt(0, Integer.MIN_VALUE));
        Check.refuses("54: type 1", Check.ARGUMENT, () -> x.chartedAt(1, 0));
        results(x, 1, 2, 3, 4, 5, 6, 7, 8);
        Check.is("53: twelve", 12, () -> x.charted(0));
        Check.is("54: the first one", 5, () -> x.chartedAt(0, 0));
        results(x, 10);
        Check.is("53: never more", 12, () -> x.charted(0));
        Check.is("54: the first one is gone", -7, () -> x.chartedAt(0, 0));
        Check.is("54: the latest one", 10, () -> x.chartedAt(0, 11));
        x.undo();
        Check.is("54: undone", 5, () -> x.chartedAt(0, 0));
        Check.is("54: undone at the end", 8, () -> x.chartedAt(0, 11));
    }

    private static void signals(int due, int lower, int upper, int... deviations) {
        VernierDrawers x = withType(lower, upper);
        results(x, deviations);
        StringBuilder what = new StringBuilder();
        for (int deviation : deviations) {
            what.append(' ').append(deviation);
        }
        Check.is("55: " + lower + " to " + upper + ":" + what, due, () -> x.signalsOf(0));
    }

    private static void signalOfLimits() {
        signals(0, -20, 20);
        signals(0, -20, 20, 20);
        signals(1, -20, 20, 21);
        signals(0, -20, 20, -20);
        signals(1, -20, 20, -21);
        signals(0, -20, 20, 21, 0);
    }

    private static void signalOfWays() {
        signals(0, -99, 99, -2, -1, 0, 1, 2);
        signals(0, -99, 99, 1, 2, 3, 4, 5);
        signals(0, -99, 99, -1, -2, -3, -4, -5);
        signals(2, -99, 99, -2, -1, 0, 1, 2, 3);
        signals(2, -99, 99, 2, 1, 0, -1, -2, -3);
        signals(0, -99, 99, -2, -1, 0, 0, 1, 2);
        signals(0, -99, 99, 2, 1, 0, 0, -1, -2);
        signals(0, -99, 99, -2, -1, 0, 1, 3, 2);
        signals(0, -99, 99, -1, -2, 0, 1, 2, 3);
        signals(2, -99, 99, 9, -2, -1, 0, 1, 2, 3);
        signals(2, -99, 99, -9, 2, 1, 0, -1, -2, -3);
        signals(0, -99, 99, -2, -1, 0, 1, 2, 3, 3);
    }

    private static void signalOfSides() {
        signals(0, -99, 99, 1, 1, 1, 1, 1, 1);
        signals(4, -99, 99, 1, 1, 1, 1, 1, 1, 1);
        signals(4, -99, 99, -1, -1, -1, -1, -1, -1, -1);
        signals(0, -99, 99, 1, 1, 1, 0, 1, 1, 1);
        signals(0, -99, 99, -1, -1, -1, 0, -1, -1, -1);
        signals(0, -99, 99, 0, 1, 1, 1, 1, 1, 1);
        signals(0, -99, 99, 1, 1, 1, 1, 1, 1, -1);
        signals(4, -99, 99, -1, 1, 1, 1, 1, 1, 1, 1);
        signals(0, -99, 99, 1, 1, 1, 1, 1, 1, 1, 0);
    }

    private static void signalOfFarOnes() {
        signals(0, -30, 30, 21, 21);
        signals(8, -30, 30, 0, 21, 21);
        signals(8, -30, 30, 21, 0, 21);
        signals(8, -30, 30, 21, 21, 0);
        signals(0, -30, 30, 20, 21, 20);
        signals(8, -30, 30, -21, 0, -21);
        signals(0, -30, 30, -20, -21, -20);
        signals(0, -30, 30, 21, 0, -21);
        signals(0, -30, 30, 21, 21, 0, 0);
        signals(8, -30, 31, 0, 21, 21);
        signals(0, -30, 32, 0, 21, 21);
        signals(8, -9, 0, -8, -3, -8);
    }

    private static void signalsTogether() {
        signals(1 + 8, -20, 20, 0, 30, 30);
        signals(1 + 2 + 4 + 8, -20, 20, 14, 15, 16, 17, 18, 19, 30);
        signals(2 + 4, -99, 99, 1, 2, 3, 4, 5, 6, 7);
        signals(1 + 2 + 4 + 8, -20, 20, -14, -15, -16, -17, -18, -19, -30);
        VernierDrawers x = withType(-20, 20);
        results(x, 0, 0, 30);
        x.throwOut(0);
        Check.is("55: the latest one was thrown out", 0, () -> x.signalsOf(0));
    }

    private static void middle(int due, int... deviations) {
        VernierDrawers x = withType(-99, 99);
        results(x, deviations);
        Check.is("56: of " + deviations.length, due, () -> x.middleOf(0));
        Check.is("57: of " + deviations.length, due, () -> x.middleByTaking(0));
        for (int i = 0; i < deviations.length; i++) {
            int place = i;
            Check.is("56: the chart stays", deviations[i], () -> x.chartedAt(0, place));
        }
    }

    private static void middles() {
        VernierDrawers x = withType(-99, 99);
        Check.refuses("56: empty", Check.ELEMENT, () -> x.middleOf(0));
        Check.refuses("57: empty", Check.ELEMENT, () -> x.middleByTaking(0));
        middle(-5, -5);
        middle(7, 7, -5);
        middle(7, -5, 7);
        middle(3, 9, 3, -8);
        middle(4, 9, 3, -8, 4);
        middle(4, 4, 4, 4, 9);
        middle(4, 4, -9, 4, 4, 9);
        middle(6, 6, 5, 7, 4, 8, 3, 9, 2, 10, 1, 11);
        middle(7, 12, 6, 5, 7, 4, 8, 3, 9, 2, 10, 1, 11);
        middle(0, -50, 50, -49, 49, 0, -48, 48);
    }

    private static void spreadAndMean() {
        VernierDrawers x = withType(-99, 99);
        Check.refuses("58: empty", Check.ELEMENT, () -> x.spreadOf(0));
        Check.refuses("59: empty", Check.ELEMENT, () -> x.meanOf(0));
        results(x, -7);
        Check.is("58: of one", 0, () -> x.spreadOf(0));
        Check.is("59: of one", -7.0f, () -> x.meanOf(0));
        results(x, 4);
        Check.is("58: of two", 11, () -> x.spreadOf(0));
        Check.is("59: of two", -1.5f, () -> x.meanOf(0));
        results(x, 5);
        Check.is("58: of three", 12, () -> x.spreadOf(0));
        Check.is("59: of three", 2.0f / 3.0f, () -> x.meanOf(0));
        results(x, -98, 98);
        Check.is("58: far apart", 196, () -> x.spreadOf(0));
        Check.is("59: of five", 2.0f / 5.0f, () -> x.meanOf(0));
    }

    private static void throwOut() {
        VernierDrawers x = withType(-99, 99);
        Check.refuses("13: type 1", Check.ARGUMENT, () -> x.throwOut(1));
        Check.is("13: empty", 0, () -> x.throwOut(0));
        Check.is("13: is a change", 4, x::states);
        x.undo();
        Check.is("13: is undone", 3, x::states);
        results(x, 11, 0, -10, 10, -11, 0, 40);
        Check.is("13: 11, -11 and 40", 3, () -> x.throwOut(0));
        int[] due = {0, -10, 10, 0};
        for (int i = 0; i < due.length; i++) {
            int place = i;
            Check.is("13: place " + i, due[i], () -> x.chartedAt(0, place));
        }
        Check.is("53: four stay", 4, () -> x.charted(0));
        Check.is("50: the record stays", 7, () -> x.recordOf(0));
        Check.is("63: the results stay", 7, x::good);
        x.undo();
        Check.is("13: undone", 7, () -> x.charted(0));
        Check.is("13: undone, the last one", 40, () -> x.chartedAt(0, 6));
        x.setTolerance(0);
        Check.is("13: tolerance 0", 5, () -> x.throwOut(0));
        Check.is("13: only the middle ones stay", 0, () -> x.spreadOf(0));

        VernierDrawers y = withType(-99, 99);
        results(y, 0, 8, 16, 24, 32);
        Check.is("13: by the middle ahead of it", 2, () -> y.throwOut(0));
        Check.is("13: by the middle then", 0, () -> y.throwOut(0));
        y.setTolerance(7);
        Check.is("13: two of three", 2, () -> y.throwOut(0));
        Check.is("13: one is left", 16, () -> y.middleOf(0));
        Check.is("13: one stays", 0, () -> y.throwOut(0));
        results(y, -60);
        Check.is("13: of two the lesser one", 1, () -> y.throwOut(0));
        Check.is("13: the greater one stays", 16, () -> y.chartedAt(0, 0));
    }

    private static void setTolerance() {
        VernierDrawers x = new VernierDrawers();
        Check.refuses("14: -1", Check.ARGUMENT, () -> x.setTolerance(-1));
        Check.refuses("14: 100", Check.ARGUMENT, () -> x.setTolerance(100));
        Check.refuses("14: far below", Check.ARGUMENT, () -> x.setTolerance(Integer.MIN_VALUE));
        Check.refuses("14: far above", Check.ARGUMENT, () -> x.setTolerance(Integer.MAX_VALUE));
        Check.is("14: no change was made", 0, x::states);
        Check.is("14: 10 at first", 10, () -> x.setTolerance(0));
        Check.is("14: 0", 0, () -> x.setTolerance(99));
        Check.is("14: 99", 99, () -> x.setTolerance(99));
        Check.is("14: three changes", 3, x::states);
        x.undo();
        x.undo();
        Check.is("14: undone", 0, () -> x.setTolerance(5));
    }

    private static void noSuchType() {
        VernierDrawers x = withType(-99, 99);
        results(x, 0);
        for (int type : new int[] {-1, 1, 5, Integer.MIN_VALUE, Integer.MAX_VALUE}) {
            Check.refuses("13: type " + type, Check.ARGUMENT, () -> x.throwOut(type));
            Check.refuses("49: type " + type, Check.ARGUMENT, () -> x.mannerOf(type));
            Check.refuses("50: type " + type, Check.ARGUMENT, () -> x.recordOf(type));
            Check.refuses("51: type " + type, Check.ARGUMENT, () -> x.badOf(type));
            Check.refuses("52: type " + type, Check.ARGUMENT, () -> x.goodUntilChange(type));
            Check.refuses("53: type " + type, Check.ARGUMENT, () -> x.charted(type));
            Check.refuses("54: type " + type, Check.ARGUMENT, () -> x.chartedAt(type, 0));
            Check.refuses("55: type " + type, Check.ARGUMENT, () -> x.signalsOf(type));
            Check.refuses("56: type " + type, Check.ARGUMENT, () -> x.middleOf(type));
            Check.refuses("57: type " + type, Check.ARGUMENT, () -> x.middleByTaking(type));
            Check.refuses("58: type " + type, Check.ARGUMENT, () -> x.spreadOf(type));
            Check.refuses("59: type " + type, Check.ARGUMENT, () -> x.meanOf(type));
        }
    }
}
