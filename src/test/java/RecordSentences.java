/** The sentences on records and charts: promises 13, 14 and 49 to 59, and their terms. */
final class RecordSentences {
    private RecordSentences() {
    }

    static void test() {
        floats();
        manners();
        records();
        plainly();
        strictlyAndLoosely();
        charts();
        signals();
        middle();
        throwOut();
        setTolerance();
        looksAtRecords();
        goodUntilChange();
        looksAtCharts();
        chartedAt();
        looksAtMiddles();
        looksAtSpreads();
    }

    private static void record(String what, VernierDrawers x, int manner, int many, int bad) {
        Check.is(what + ", the manner", manner, () -> x.mannerOf(0));
        Check.is(what + ", how many", many, () -> x.recordOf(0));
        Check.is(what + ", how many are bad", bad, () -> x.badOf(0));
    }

    private static VernierDrawers judged(int... deviations) {
        return Made.judged(-20, 20, deviations);
    }

    private static VernierDrawers more(VernierDrawers x, int... deviations) {
        Made.results(x, deviations);
        return x;
    }

    private static void chart(String what, VernierDrawers x, int... due) {
        Check.is(what + ", how many", due.length, () -> x.charted(0));
        for (int i = 0; i < due.length; i++) {
            int place = i;
            Check.is(what + ", place " + i, due[i], () -> x.chartedAt(0, place));
        }
    }

    // ---- the terms

    private static void floats() {
        Sentences.term("All numbers are whole numbers, lengths in hundredths of a millimetre; but the mean and the share are"
                + " floats.", () -> {
            Check.is("the mean", 1.0f / 3.0f, () -> judged(1, 0, 0).meanOf(0));
            Check.is("the share", 1.0f / 3.0f, () -> judged(0, 50, 50).goodShare());
        });
    }

    private static void manners() {
        Sentences.term("Each type is looked at in a manner: 0 plainly (at first), 1 strictly, 2 loosely.", () -> {
            VernierDrawers x = Made.type(-20, 20);
            x.addType(1000, -20, 20, 2);
            Check.is("at first", 0, () -> x.mannerOf(0));
            more(x, 50, 50);
            Check.is("strictly", 1, () -> x.mannerOf(0));
            Check.is("the other type", 0, () -> x.mannerOf(1));
            Check.is("loosely", 2, () -> judged(new int[10]).mannerOf(0));
        });
    }

    private static void records() {
        Sentences.term("Its record has the latest results, 10 at most.", () -> {
            record("none", judged(), 0, 0, 0);
            record("ten", judged(50, 0, 0, 0, 0, 0, 0, 0, 0, 0), 0, 10, 1);
            record("never more", judged(0, 50, 0, 0, 0, 0, 0, 0, 0, 0, 0), 0, 10, 1);
            record("the first one is gone", judged(50, 0, 0, 0, 0, 0, 50, 0, 0, 0), 0, 10, 2);
            record("the first one is gone", judged(50, 0, 0, 0, 0, 0, 50, 0, 0, 0, 0), 0, 10, 1);
            record("ten bad ones", judged(50, 50, 50, 50, 50, 50, 50, 50, 50, 50, 50, 50), 1, 10, 10);
            record("never more bad ones", judged(50, 50, 50, 50, 50, 50, 50, 50, 50, 50, 50, 50, 50), 1, 10, 10);
        });
    }

    private static void plainly() {
        Sentences.term("With each result, which comes into the record first: if it is looked at plainly, and 2 or more of the"
                + " latest 5 are bad (of fewer, if there are not so many), it is looked at strictly from then on;", () -> {
            record("1 of 1", judged(50), 0, 1, 1);
            record("1 of 2", judged(0, -50), 0, 2, 1);
            record("2 of 2", judged(50, 50), 1, 0, 0);
            record("2 of 3", judged(50, 0, -50), 1, 0, 0);
            record("2 of 4", judged(50, 0, 0, 50), 1, 0, 0);
            record("2 of 5", judged(50, 0, 0, 0, -50), 1, 0, 0);
            record("1 of the latest 5", judged(50, 0, 0, 0, 0, 50), 0, 6, 2);
            record("2 of the latest 5", judged(0, 0, 0, 50, 0, 0, 0, 50), 1, 0, 0);
            record("2 of the latest 5 of 10", judged(0, 0, 0, 0, 0, 50, 0, 0, 0, 50), 1, 0, 0);
            record("1 of the latest 5 of 10", judged(0, 0, 0, 0, 50, 0, 0, 0, 0, 50), 0, 10, 2);
            record("from then on", judged(50, 50, 0), 1, 1, 0);
        });
        Sentences.term("or if there are 10, and all are good, loosely;", () -> {
            record("9", judged(new int[9]), 0, 9, 0);
            record("10", judged(new int[10]), 2, 0, 0);
            record("10, the first one is bad", judged(50, 0, 0, 0, 0, 0, 0, 0, 0, 0), 0, 10, 1);
            record("11, the first one is bad", judged(50, 0, 0, 0, 0, 0, 0, 0, 0, 0, 0), 2, 0, 0);
            record("10, the latest one is bad", judged(0, 0, 0, 0, 0, 0, 0, 0, 0, 50), 0, 10, 1);
            record("10, thrown away is bad", judged(0, 0, 0, 0, 0, 0, 0, 0, 0, -50), 0, 10, 1);
        });
    }

    private static void strictlyAndLoosely() {
        Sentences.term("if it is looked at strictly, and there are 5 or more, of which the latest 5 are good, plainly;", () -> {
            record("4", judged(50, 50, 0, 0, 0, 0), 1, 4, 0);
            record("5", judged(50, 50, 0, 0, 0, 0, 0), 0, 0, 0);
            record("5, the first one is bad", judged(50, 50, 50, 0, 0, 0, 0), 1, 5, 1);
            record("6, the first one is bad", judged(50, 50, 50, 0, 0, 0, 0, 0), 0, 0, 0);
            record("5, the latest one is bad", judged(50, 50, 0, 0, 0, 0, 50), 1, 5, 1);
            record("the 5 ahead of the latest one", judged(50, 50, 0, 0, 0, 50, 0, 0, 0, 0), 1, 8, 1);
            record("10, and 4 good ones", judged(50, 50, 50, 50, 50, 50, 50, 50, 0, 0, 0, 0), 1, 10, 6);
            record("11, and 5 good ones", judged(50, 50, 50, 50, 50, 50, 50, 50, 0, 0, 0, 0, 0), 0, 0, 0);
        });
        Sentences.term("if it is looked at loosely, and the result is bad, plainly.", () -> {
            record("a good one", more(judged(new int[10]), 0), 2, 1, 0);
            record("ten good ones", more(judged(new int[10]), new int[10]), 2, 10, 0);
            record("a bad one", more(judged(new int[10]), 50), 0, 0, 0);
            record("one thrown away", more(judged(new int[10]), 0, -50), 0, 0, 0);
            record("ten good ones and a bad one", more(judged(new int[10]), 0, 0, 0, 0, 0, 0, 0, 0, 0, 0, 50), 0, 0, 0);
            VernierDrawers doubted = judged(new int[10]);
            doubted.bring(0, 20);
            doubted.judge(0);
            record("a doubt", doubted, 2, 0, 0);
        });
        Sentences.term("When the manner changes, the record is emptied.", () -> {
            record("to strictly", judged(50, 50), 1, 0, 0);
            record("to plainly", judged(50, 50, 0, 0, 0, 0, 0), 0, 0, 0);
            record("to loosely", judged(new int[10]), 2, 0, 0);
            record("to plainly, by a bad one", more(judged(new int[10]), 50), 0, 0, 0);
            record("bad ones are not remembered", judged(50, 50, 0, 0, 0, 0, 0, 50), 0, 1, 1);
            record("it does not change", judged(50, 50, 0, 50), 1, 2, 1);
            Check.is("the chart is not emptied", 10, () -> judged(new int[10]).charted(0));
        });
    }

    private static void charts() {
        Sentences.term("The chart of a type has the measured deviations of results, the latest at its end, 12 at most; when"
                + " one more comes, the first one goes.", () -> {
            chart("none", judged());
            chart("good and bad ones", judged(5, 50, -50), 5, 50, -50);
            chart("doubted at first", judged(20, -20), 20, -20);
            chart("12", judged(1, 2, 3, 4, 5, 6, 7, 8, 9, 10, 11, 12), 1, 2, 3, 4, 5, 6, 7, 8, 9, 10, 11, 12);
            chart("13", judged(1, 2, 3, 4, 5, 6, 7, 8, 9, 10, 11, 12, 13), 2, 3, 4, 5, 6, 7, 8, 9, 10, 11, 12, 13);
            VernierDrawers x = judged(3);
            x.bring(0, 20);
            x.judge(0);
            chart("a doubt", x, 3);
        });
    }

    private static void signals(int due, int lower, int upper, int... deviations) {
        StringBuilder what = new StringBuilder().append(lower).append(" to ").append(upper).append(':');
        for (int deviation : deviations) {
            what.append(' ').append(deviation);
        }
        Check.is(what.toString(), due, () -> Made.judged(lower, upper, deviations).signalsOf(0));
    }

    private static void signals() {
        Sentences.term("Its signals are: 1, if the latest one is above the upper limit, or below the lower one;", () -> {
            signals(0, -20, 30);
            signals(0, -20, 30, 30);
            signals(1, -20, 30, 31);
            signals(0, -20, 30, -20);
            signals(1, -20, 30, -21);
            signals(0, -20, 30, 31, 0);
            signals(1, -20, 30, 0, 31);
            signals(0, 0, 5, 0);
            signals(1, 0, 5, -1);
        });
        Sentences.term("2, if there are 6 or more, and of the latest 6 each is greater than the one before it, or each is"
                + " less;", () -> {
            signals(0, -99, 99, -2, -1, 0, 1, 2);
            signals(0, -99, 99, 1, 2, 3, 4, 5);
            signals(0, -99, 99, -1, -2, -3, -4, -5);
            signals(2, -99, 99, -2, -1, 0, 1, 2, 3);
            signals(0, -99, 99, 2, 1, 0, -1, -2);
            signals(2, -99, 99, 2, 1, 0, -1, -2, -3);
            signals(2, -99, 99, -3, -2, -1, 0, 1, 2, 3);
            signals(2, -99, 99, 9, -2, -1, 0, 1, 2, 3);
            signals(2, -99, 99, -9, 2, 1, 0, -1, -2, -3);
            for (int same = 1; same < 6; same++) {
                int[] up = {-2, -1, 0, 1, 2, 3};
                up[same] = up[same - 1];
                signals(0, -99, 99, up);
                int[] down = {2, 1, 0, -1, -2, -3};
                down[same] = down[same - 1];
                signals(0, -99, 99, down);
            }
            signals(0, -99, 99, -2, -1, 0, 1, 2, 3, 2);
        });
        Sentences.term("4, if there are 7 or more, and the latest 7 are all above 0, or all below 0;", () -> {
            signals(0, -99, 99, 1, 1, 1, 1, 1, 1);
            signals(4, -99, 99, 1, 1, 1, 1, 1, 1, 1);
            signals(0, -99, 99, -1, -1, -1, -1, -1, -1);
            signals(4, -99, 99, -1, -1, -1, -1, -1, -1, -1);
            for (int zero = 0; zero < 7; zero++) {
                int[] above = {1, 1, 1, 1, 1, 1, 1};
                above[zero] = 0;
                signals(0, -99, 99, above);
                int[] below = {-1, -1, -1, -1, -1, -1, -1};
                below[zero] = 0;
                signals(0, -99, 99, below);
            }
            signals(4, -99, 99, -1, 1, 1, 1, 1, 1, 1, 1);
            signals(4, -99, 99, 0, -1, -1, -1, -1, -1, -1, -1);
            signals(0, -99, 99, 1, 1, 1, 1, 1, 1, -1);
            signals(4, -99, 99, 1, 1, 1, 1, 1, 1, 1, 1);
            signals(4, -99, 99, -1, -1, -1, -1, -1, -1, -1, -1);
        });
        Sentences.term("8, if there are 3 or more, and 2 or more of the latest 3, times 3, are above the upper limit times 2,"
                + " or 2 or more of them, times 3, are below the lower limit times 2.", () -> {
            signals(0, -30, 30, 21, 21);
            signals(8, -30, 30, 21, 21, 0);
            signals(8, -30, 30, 21, 0, 21);
            signals(8, -30, 30, 0, 21, 21);
            signals(8, -30, 30, 21, 21, 21);
            signals(0, -30, 30, 20, 21, 0);
            signals(0, -30, 30, 20, 20, 20);
            signals(8, -30, 30, -21, -21, 0);
            signals(0, -30, 30, -20, -21, 0);
            signals(0, -30, 30, 21, -21, 0);
            signals(0, -30, 30, 21, 21, 0, 0);
            signals(8, -30, 31, 21, 21, 0);
            signals(0, -30, 32, 21, 21, 0);
            signals(8, -31, 30, -21, -21, 0);
            signals(0, -32, 30, -21, -21, 0);
            signals(8, -9, 0, 1, 1, -1);
        });
    }

    private static void middle(int due, int... deviations) {
        Check.is("of " + deviations.length + ", in order", due, () -> Made.judged(-99, 99, deviations).middleOf(0));
        Check.is("of " + deviations.length + ", by taking", due, () -> Made.judged(-99, 99, deviations).middleByTaking(0));
    }

    private static void middle() {
        Sentences.term("The middle of a chart is the deviation with as many others ahead of it as half of how many there are,"
                + " rounded down, if they are put in order, the least first.", () -> {
            middle(-5, -5);
            middle(7, 7, -5);
            middle(7, -5, 7);
            middle(3, 9, 3, -8);
            middle(4, 9, 3, -8, 4);
            middle(-4, -4, -4, -4, 9);
            middle(0, 50, -50, 0, 49, -49);
            middle(6, 6, 5, 7, 4, 8, 3, 9, 2, 10, 1, 11);
            middle(7, 12, 6, 5, 7, 4, 8, 3, 9, 2, 10, 1, 11);
            middle(9, 1, 12, 6, 5, 7, 4, 8, 3, 9, 13, 10, 14, 11);
        });
    }

    // ---- promises 13 and 14

    private static void throwOut() {
        Sentences.of(13, "Throws those out of the chart of a type that are more than the tolerance away from its middle, as it"
                + " is ahead of that.", () -> {
            VernierDrawers x = judged(11, 0, -10, 10, -11, 0, 40);
            Check.is("11, -11 and 40", 3, () -> x.throwOut(0));
            chart("10 away and less", x, 0, -10, 10, 0);
            VernierDrawers y = judged(0, 8, 16, 24, 32);
            Check.is("by the middle ahead of that", 2, () -> y.throwOut(0));
            chart("8 to 24", y, 8, 16, 24);
            VernierDrawers z = judged(0, 1, 0, -1);
            z.setTolerance(0);
            Check.is("the tolerance 0", 2, () -> z.throwOut(0));
            chart("the middle alone", z, 0, 0);
            VernierDrawers far = Made.judged(-20, 20, -99, -100, 0, 99, 100);
            far.setTolerance(99);
            Check.is("the tolerance 99", 2, () -> far.throwOut(0));
            chart("99 away", far, -99, 0, 99);
            Check.is("the record stays", 2, () -> thrownOut(0, 50).recordOf(0));
            Check.is("the results stay", 0.5f, () -> thrownOut(0, 50).goodShare());
        });
        Sentences.of(13, "- `type`: its number", () -> {
            Check.is("the first one", 1, () -> Made.busy().throwOut(0));
            Check.is("the last one", 0, () -> Made.busy().throwOut(1));
            Refused.numbers("type", Made::busy, VernierDrawers::throwOut, -1, 2);
        });
        Sentences.of(13, "Returns how many are thrown out, 0 of an empty chart.", () -> {
            Check.is("empty", 0, () -> Made.type(-20, 20).throwOut(0));
            Check.is("one", 0, () -> judged(50).throwOut(0));
            Check.is("two", 1, () -> judged(0, 11).throwOut(0));
            Check.is("ten of twelve", 10, () -> judged(-90, -90, -90, -90, -90, 0, 0, 90, 90, 90, 90, 90).throwOut(0));
            Check.is("none once more", 0, () -> thrownOut(0, 50, 0).throwOut(0));
            VernierDrawers x = more(thrownOut(0, 4, 1, 50, -50), 7);
            chart("what comes behind that", x, 0, 4, 1, 7);
        });
        noSuchType(13, VernierDrawers::throwOut);
    }

    private static VernierDrawers thrownOut(int... deviations) {
        VernierDrawers x = judged(deviations);
        x.throwOut(0);
        return x;
    }

    private static void setTolerance() {
        Sentences.of(14, "Sets the tolerance of throwing out.", () -> {
            VernierDrawers x = judged(0, 4, -4, 5, -5);
            x.setTolerance(4);
            Check.is("4", 2, () -> x.throwOut(0));
        });
        Sentences.of(14, "- `length`: 0 to 99", () -> {
            VernierDrawers x = Made.empty();
            x.setTolerance(0);
            Check.is("0", 0, () -> x.setTolerance(99));
            Check.is("99", 99, () -> x.setTolerance(99));
            Refused.numbers("length", Made::busy, VernierDrawers::setTolerance, -1, 100);
        });
        Sentences.of(14, "Returns what it was.", () -> {
            VernierDrawers x = Made.empty();
            Check.is("at first", 10, () -> x.setTolerance(7));
            Check.is("then", 7, () -> x.setTolerance(7));
        });
        Sentences.of(14, "Throws `IllegalArgumentException` if length is out of range", () -> {
            Refused.argument("-1", Made::full, x -> x.setTolerance(-1));
            Refused.argument("100", Made::empty, x -> x.setTolerance(100));
        });
    }

    // ---- promises 49 to 59

    private static void lookAtTypes(int promise, String what, String answer, Refused.ByNumber call, double first,
            double second) {
        Sentences.of(promise, what, () -> Check.is("of the first", first, () -> call.of(Made.busy(), 0)));
        Sentences.of(promise, answer, () -> Check.is("of the second", second, () -> call.of(Made.busy(), 1)));
        Sentences.of(promise, "- `type`: its number", () -> {
            Check.is("the first one", first, () -> call.of(Made.busy(), 0));
            Check.is("the last one", second, () -> call.of(Made.busy(), 1));
            Refused.numbers("type", Made::busy, call, -1, 2);
        });
        noSuchType(promise, call);
    }

    private static void noSuchType(int promise, Refused.ByNumber call) {
        Sentences.of(promise, "Throws `IllegalArgumentException` if there is no such type", () -> {
            Refused.argument("no type", Made::empty, x -> call.of(x, 0));
            Refused.argument("a type that was undone", () -> {
                VernierDrawers x = Made.type(-9, 9);
                x.undo();
                return x;
            }, x -> call.of(x, 0));
            Refused.numbers("of five", Made::full, call, -1, 5);
        });
    }

    private static void emptyChart(int promise, Refused.ByNumber call) {
        Sentences.of(promise, "Throws `NoSuchElementException` if it is empty", () -> {
            Refused.element("no piece", () -> Made.type(-9, 9), x -> call.of(x, 0));
            Refused.element("the chart of another type", Made::full, x -> call.of(x, 4));
            Refused.element("a result that was undone", () -> {
                VernierDrawers x = judged(0);
                x.undo();
                return x;
            }, x -> call.of(x, 0));
            Refused.argument("no such type, ahead of an empty chart", Made::empty, x -> call.of(x, 0));
        });
    }

    private static void looksAtRecords() {
        lookAtTypes(49, "Returns in which manner a type is looked at.", "Returns the manner, 0 to 2.",
                VernierDrawers::mannerOf, 1, 0);
        Sentences.of(49, "Returns the manner, 0 to 2.", () -> {
            Check.is("0", 0, () -> judged().mannerOf(0));
            Check.is("1", 1, () -> judged(50, 50).mannerOf(0));
            Check.is("2", 2, () -> Made.passed().mannerOf(0));
        });
        lookAtTypes(50, "Returns how many results the record of a type has.", "Returns how many.",
                VernierDrawers::recordOf, 0, 1);
        Sentences.of(50, "Returns how many.", () -> {
            Check.is("none", 0, () -> judged().recordOf(0));
            Check.is("nine", 9, () -> judged(50, 0, 0, 0, 0, 0, 0, 0, 0).recordOf(0));
            Check.is("ten", 10, () -> judged(50, 0, 0, 0, 0, 0, 0, 0, 0, 0).recordOf(0));
        });
        lookAtTypes(51, "Returns how many of these are bad.", "Returns how many.", VernierDrawers::badOf, 0, 1);
        Sentences.of(51, "Returns how many.", () -> {
            Check.is("none", 0, () -> judged().badOf(0));
            Check.is("none of four", 0, () -> judged(0, 0, 0, 0).badOf(0));
            Check.is("ten", 10, () -> judged(50, 50, 50, 50, 50, 50, 50, 50, 50, 50, 50, 50).badOf(0));
        });
    }

    /** Plainly and strictly looked at ones; each good one that comes makes it one less. */
    private static void untilChange(int due, int... deviations) {
        VernierDrawers x = judged(deviations);
        int manner = x.mannerOf(0);
        for (int left = due; left > 0; left--) {
            Check.is("behind " + deviations.length + " results", left, () -> x.goodUntilChange(0));
            Check.is("the manner still", manner, () -> x.mannerOf(0));
            more(x, 0);
        }
        Check.is("the manner changes behind " + deviations.length + " results", 1, () -> Check.of(x.mannerOf(0) != manner));
    }

    private static void goodUntilChange() {
        lookAtTypes(52, "Returns how many good ones in a row, if all that come are good, it takes until the manner in which a"
                + " type is looked at changes, with the record as it is.", "Returns how many.",
                VernierDrawers::goodUntilChange, 5, 10);
        Sentences.of(52, "Returns how many.", () -> {
            untilChange(10);
            untilChange(9, 0);
            untilChange(10, 50);
            untilChange(9, 50, 0);
            untilChange(1, new int[9]);
            untilChange(10, 0, 0, 0, 0, 0, 0, 0, 0, 50);
            untilChange(1, 50, 0, 0, 0, 0, 0, 0, 0, 0, 0);
            untilChange(5, 50, 50);
            untilChange(4, 50, 50, 0);
            untilChange(1, 50, 50, 0, 0, 0, 0);
            untilChange(5, 50, 50, 0, 0, 0, 0, 50);
            untilChange(1, 50, 50, 50, 0, 0, 0, 0);
            untilChange(10, 50, 50, 0, 0, 0, 0, 0);
        });
        Sentences.of(52, "Throws `NoSuchElementException` if it is looked at loosely", () -> {
            Refused.element("loosely", () -> judged(new int[10]), x -> x.goodUntilChange(0));
            Refused.element("loosely still", () -> judged(new int[13]), x -> x.goodUntilChange(0));
            Check.is("no more", 10, () -> more(judged(new int[10]), 50).goodUntilChange(0));
        });
    }

    private static void looksAtCharts() {
        lookAtTypes(53, "Returns how many deviations the chart of a type has.", "Returns how many.",
                VernierDrawers::charted, 3, 1);
        Sentences.of(53, "Returns how many.", () -> {
            Check.is("none", 0, () -> judged().charted(0));
            Check.is("eleven", 11, () -> judged(new int[11]).charted(0));
            Check.is("twelve", 12, () -> judged(new int[12]).charted(0));
            Check.is("twelve of thirteen", 12, () -> judged(new int[13]).charted(0));
            Check.is("all were thrown out but one", 1, () -> thrownOut(5, 50).charted(0));
        });
        lookAtTypes(55, "Returns the signals of the chart of a type.", "Returns the sum of the signals, 0 to 15.",
                VernierDrawers::signalsOf, 1 + 8, 1);
        Sentences.of(55, "Returns the sum of the signals, 0 to 15.", () -> {
            signals(0, -20, 20);
            signals(15, -20, 20, 14, 15, 16, 17, 18, 19, 30);
            signals(15, -20, 20, -14, -15, -16, -17, -18, -19, -30);
            signals(2 + 4, -99, 99, 1, 2, 3, 4, 5, 6, 7);
            signals(1 + 8, -20, 20, 0, 30, 30);
        });
    }

    private static void chartedAt() {
        Sentences.of(54, "Returns a deviation of the chart of a type.",
            () -> Check.is("the second one", 59, () -> Made.busy().chartedAt(0, 1)));
        Sentences.of(54, "- `type`: its number", () -> {
            Check.is("the first one", -1, () -> Made.busy().chartedAt(0, 0));
            Check.is("the last one", -41, () -> Made.busy().chartedAt(1, 0));
            Refused.numbers("type", Made::busy, (x, type) -> x.chartedAt(type, 0), -1, 2);
        });
        Sentences.of(54, "- `place`: 0 for the first one, and so on",
            () -> chart("twelve", judged(1, 2, 3, 4, 5, 6, 7, 8, 9, 10, 11, 12), 1, 2, 3, 4, 5, 6, 7, 8, 9, 10, 11, 12));
        Sentences.of(54, "Returns the deviation.", () -> Check.is("the last one", 60, () -> Made.busy().chartedAt(0, 2)));
        Sentences.of(54, "Throws `IllegalArgumentException` if there is no such type, or place is below 0", () -> {
            Refused.argument("no type", Made::empty, x -> x.chartedAt(0, 0));
            Refused.argument("the type", Made::full, x -> x.chartedAt(5, 0));
            Refused.argument("the place", Made::full, x -> x.chartedAt(0, -1));
            Refused.argument("a far place", Made::full, x -> x.chartedAt(0, Integer.MIN_VALUE));
            Refused.argument("both", Made::full, x -> x.chartedAt(-1, -1));
            Refused.argument("the place, though the chart is empty", Made::full, x -> x.chartedAt(4, -1));
            Refused.argument("the type, though there are not so many", Made::full, x -> x.chartedAt(5, 12));
        });
        Sentences.of(54, "Throws `NoSuchElementException` if there are not so many", () -> {
            Refused.element("0 of none", Made::full, x -> x.chartedAt(4, 0));
            Refused.element("3 of three", Made::busy, x -> x.chartedAt(0, 3));
            Refused.element("12 of twelve", Made::full, x -> x.chartedAt(0, 12));
            Refused.element("far above", Made::full, x -> x.chartedAt(0, Integer.MAX_VALUE));
            Refused.element("thrown out", () -> thrownOut(0, 50, 0), x -> x.chartedAt(0, 2));
        });
    }

    private static void looksAtMiddles() {
        lookAtTypes(56, "Returns the middle of the chart of a type, told by putting all in order.", "Returns the deviation.",
                VernierDrawers::middleOf, 59, -41);
        emptyChart(56, VernierDrawers::middleOf);
        lookAtTypes(57, "Returns the same, told by taking the least and the greatest one away, as long as there are more than"
                + " 2; then of 2 the greater one.", "Returns the deviation.", VernierDrawers::middleByTaking, 59, -41);
        Sentences.of(57, "then of 2 the greater one.", () -> {
            middle(7, 7, -5);
            middle(7, -5, 7);
            middle(4, 3, -8, 4, 9);
            middle(3, 9, 3, -8);
        });
        emptyChart(57, VernierDrawers::middleByTaking);
        for (int promise = 56; promise <= 57; promise++) {
            Sentences.of(promise, "Returns the deviation.", () -> {
                VernierDrawers x = judged(5, 3, 4, 1, 2);
                x.middleOf(0);
                x.middleByTaking(0);
                chart("the chart stays", x, 5, 3, 4, 1, 2);
                middleOf("what was thrown out is gone", 2, () -> thrownOut(0, 4, 1, 3, 2, 50));
                middleOf("what was thrown out is gone", 2, () -> thrownOut(0, 4, 1, 3, 2, -50));
                middleOf("of twelve", 3, () -> thrownOut(0, 4, 1, 3, 2, 5, 50, 50, 50, -50, -50, -50));
            });
        }
    }

    private static void middleOf(String what, int due, Made made) {
        Check.is(what + ", in order", due, () -> made.make().middleOf(0));
        Check.is(what + ", by taking", due, () -> made.make().middleByTaking(0));
    }

    private static void looksAtSpreads() {
        lookAtTypes(58, "Returns the greatest deviation of the chart of a type less its least one.", "Returns the difference.",
                VernierDrawers::spreadOf, 61, 0);
        Sentences.of(58, "Returns the difference.", () -> {
            Check.is("of one", 0, () -> judged(7).spreadOf(0));
            Check.is("far apart", 400, () -> judged(0, -200, 200).spreadOf(0));
            Check.is("all below 0", 3, () -> judged(-1, -4, -2).spreadOf(0));
            Check.is("all above 0", 3, () -> judged(4, 1, 2).spreadOf(0));
            Check.is("what was thrown out is gone", 4, () -> thrownOut(0, 4, 1, 50, -50).spreadOf(0));
        });
        emptyChart(58, VernierDrawers::spreadOf);
        lookAtTypes(59, "Returns the mean of the chart of a type: the sum of all, as a float, divided by how many they are, as"
                + " a float.", "Returns the mean.", VernierDrawers::meanOf, 118.0f / 3.0f, -41.0f);
        Sentences.of(59, "Returns the mean.", () -> {
            Check.is("of one", 7.0f, () -> judged(7).meanOf(0));
            Check.is("a sum of 0", 0.0f, () -> judged(-1, 1).meanOf(0));
            Check.is("below 0", -2.0f / 3.0f, () -> judged(-1, -1, 0).meanOf(0));
            Check.is("of twelve", 1.0f / 12.0f, () -> judged(0, 0, 0, 0, 0, 0, 0, 0, 0, 0, 0, 1).meanOf(0));
            Check.is("what was thrown out is gone", 5.0f / 3.0f, () -> thrownOut(0, 4, 1, 50, -50).meanOf(0));
        });
        emptyChart(59, VernierDrawers::meanOf);
    }
}
