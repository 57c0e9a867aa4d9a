/** The sentences on types, pieces and accounts: promises 8 to 12, 38 to 48 and 60 to 67, and their terms. */
final class BenchSentences {
    private static final int[] STEPS = {10, 5, 2, 1, 1};

    private BenchSentences() {
    }

    static void test() {
        types();
        pieces();
        measured();
        notJudged();
        doubted();
        results();
        filed();
        unseen();
        addType();
        bring();
        judge();
        file();
        passUnseen();
        looksAtTypes();
        looksAtBench();
        looksAtJudging();
        bestTool();
        whyNotPass();
        accounts();
    }

    /** A tool, and a type of 1000 of steel with these limits. */
    private static VernierDrawers withTool(int kind, int error, int lower, int upper) {
        VernierDrawers x = Made.tool(kind, error);
        x.addType(1000, lower, upper, 0);
        return x;
    }

    /** A piece is to be filed: its length is 98, of a type of 100. */
    private static VernierDrawers shortToFile() {
        VernierDrawers x = Made.tool(4, 5);
        x.addType(100, -9, 0, 0);
        x.bring(0, -2);
        x.judge(0);
        return x;
    }

    private static VernierDrawers brought(VernierDrawers x, int... deviations) {
        for (int deviation : deviations) {
            x.bring(0, deviation);
        }
        return x;
    }

    private static VernierDrawers judgedTimes(VernierDrawers x, int times) {
        for (int i = 0; i < times; i++) {
            x.judge(0);
        }
        return x;
    }

    private static VernierDrawers typed(VernierDrawers x, String text) {
        Check.write(x, text);
        x.play();
        x.clearText();
        return x;
    }

    // ---- the terms

    private static void types() {
        Sentences.term("At most 5 types are numbered from 0: each has a length, 100 to 14000, a lower limit, -99 to 0, an"
                + " upper limit, 0 to 99, and a material.", () -> {
            VernierDrawers x = Made.empty();
            for (int i = 0; i < 5; i++) {
                int type = i;
                Check.is("type " + i, i, () -> x.addType(type == 4 ? 14000 : 100 + type, -type, type, type % 3));
            }
            Check.is("how many", 5, x::types);
            Check.is("the least length", 100, () -> x.lengthOf(0));
            Check.is("the greatest length", 14000, () -> x.lengthOf(4));
            Check.is("the fourth width", 6, () -> x.widthOf(3));
            Refused.state("a sixth", Made::full, y -> y.addType(100, 0, 0, 0));
            Refused.numbers("length", Made::busy, (y, length) -> y.addType(length, 0, 0, 0), 99, 14001, 0);
            Refused.numbers("lower", Made::busy, (y, lower) -> y.addType(100, lower, 99, 0), -100, 1);
            Refused.numbers("upper", Made::busy, (y, upper) -> y.addType(100, -99, upper, 0), -1, 100);
            Refused.numbers("material", Made::busy, (y, material) -> y.addType(100, 0, 0, material), -1, 3);
        });
    }

    private static void pieces() {
        Sentences.term("A piece is of a type, and has a deviation, -200 to 200: its length is that of the type, and the"
                + " deviation, together.", () -> {
            VernierDrawers x = Made.tool(4, 0);
            x.addType(2300, -9, 9, 0);
            x.addType(201, -9, 9, 0);
            x.bring(0, 200);
            x.bring(1, -200);
            Check.is("2500 can be read", 1, () -> x.judge(0));
            Check.is("1 is too short", 2, () -> x.judge(0));
            Check.is("measured", 200, () -> x.chartedAt(0, 0));
            Check.is("measured, too", -200, () -> x.chartedAt(1, 0));
            x.addType(2301, -9, 9, 0);
            x.bring(2, 200);
            Check.is("2501 cannot be read", 4, () -> x.whyNotJudge(0));
            Refused.numbers("deviation", Made::busy, (y, deviation) -> y.bring(0, deviation), -201, 201);
        });
        Sentences.term("Pieces wait on the bench, 20 at most, in the order in which they came, or in the queue of those to be"
                + " filed.", () -> {
            VernierDrawers x = Made.full();
            Check.is("20 on the bench", 20, x::onBench);
            for (int i = 0; i < 20; i++) {
                int place = i;
                Check.is("place " + i, i % 5, () -> x.typeAt(place));
            }
            Check.is("one to be filed", 1, x::toFile);
            Refused.state("a piece more", Made::full, y -> y.bring(0, 0));
            Refused.state("a filed one more", Made::full, y -> y.file(1));
            Refused.element("place 20", Made::full, y -> y.typeAt(20));
            VernierDrawers y = withTool(4, 0, -5, 5);
            Check.write(y, "p0,50;j0;p0,51;j0;p0,52;j0;");
            Check.playTimes(y, 9);
            Check.is("27 to be filed", 27, y::toFile);
            Check.is("the first of them", 49, () -> y.file(1));
            Check.is("the second", 50, () -> y.file(1));
            Check.is("the third", 51, () -> y.file(1));
            Check.is("the fourth", 49, () -> y.file(1));
        });
    }

    private static void measured() {
        Sentences.term("The measured deviation of a piece is the reading of its length, less the known error of the tool, and"
                + " less the length of its type.", () -> {
            VernierDrawers x = withTool(4, 30, -99, 99);
            x.bring(0, 7);
            x.judge(0);
            Check.is("with the error at zero", 37, () -> x.chartedAt(0, 0));
            x.addBlock(100, 0);
            x.calibrate(0, 100);
            x.bring(0, 7);
            x.judge(0);
            Check.is("less the known error", 7, () -> x.chartedAt(0, 1));
            x.addTool(0, 0);
            x.bring(0, 5);
            x.judge(1);
            Check.is("as it is read", 10, () -> x.chartedAt(0, 2));
            x.addType(2000, -99, 99, 2);
            x.setWarmth(50);
            x.bring(1, 7);
            x.judge(0);
            Check.is("as its material stretches", 8, () -> x.chartedAt(1, 0));
        });
    }

    private static void notJudged() {
        Sentences.term("The first piece on the bench is not judged with a tool for the first of these reasons that is so: 1"
                + " there is none;", () -> {
            Made none = () -> Made.tool(4, 0);
            Check.is("none", 1, () -> none.make().whyNotJudge(0));
            Refused.state("none", none, x -> x.judge(0));
            Check.is("none, and the tool is due", 1, () -> Made.late(10).whyNotJudge(0));
            Check.is("one to be filed alone", 1, () -> shortToFile().whyNotJudge(0));
            Check.is("one", 0, () -> brought(withTool(4, 0, -5, 5), 0).whyNotJudge(0));
        });
        Sentences.term("2 the tool is due;", () -> {
            Made used = () -> {
                VernierDrawers x = brought(withTool(4, 0, -5, 5), 0);
                Check.write(x, "m0,9;".repeat(10));
                Check.playTimes(x, 2);
                return typed(x, "m0,9;".repeat(9));
            };
            Check.is("29 uses", 0, () -> used.make().whyNotJudge(0));
            Made due = () -> typed(used.make(), "m0,9;");
            Check.is("30 uses", 2, () -> due.make().whyNotJudge(0));
            Refused.state("30 uses", due, x -> x.judge(0));
            Made early = () -> typed(brought(withTool(4, 0, -5, 5), 0), "d;".repeat(9));
            Check.is("9 days", 0, () -> early.make().whyNotJudge(0));
            Made late = () -> typed(early.make(), "d;");
            Check.is("10 days", 2, () -> late.make().whyNotJudge(0));
            Refused.state("10 days", late, x -> x.judge(0));
            Check.is("and too coarse", 2, () -> typed(brought(withTool(0, 0, -5, 5), 0), "d;".repeat(10)).whyNotJudge(0));
        });
        Sentences.term("3 it is too coarse: 5 times its step is more than the upper limit less the lower one;", () -> {
            for (int kind = 0; kind < 5; kind++) {
                int k = kind;
                int width = 5 * STEPS[k];
                Made fine = () -> brought(withTool(k, 0, -(width / 2), width - width / 2), 0);
                Made coarse = () -> brought(withTool(k, 0, -(width / 2), width - width / 2 - 1), 0);
                Check.is("5 times the step, kind " + k, 0, () -> fine.make().whyNotJudge(0));
                Check.is("1 less, kind " + k, 3, () -> coarse.make().whyNotJudge(0));
                Refused.state("1 less, kind " + k, coarse, x -> x.judge(0));
            }
            Made both = () -> {
                VernierDrawers x = Made.tool(4, 0);
                x.addType(2501, -2, 2, 0);
                return brought(x, 0);
            };
            Check.is("and not to be read", 3, () -> both.make().whyNotJudge(0));
        });
        Sentences.term("4 it cannot be read. Otherwise it is read.", () -> {
            Made readable = () -> {
                VernierDrawers x = Made.tool(4, 0);
                x.addType(2500, -9, 9, 0);
                return brought(x, 0);
            };
            Check.is("the greatest mark", 0, () -> readable.make().whyNotJudge(0));
            VernierDrawers read = readable.make();
            Check.is("is judged", 0, () -> read.judge(0));
            Check.is("is read", 1, () -> read.usesOf(0));
            Made above = () -> {
                VernierDrawers x = Made.tool(4, 0);
                x.addType(2500, -9, 9, 0);
                return brought(x, 1);
            };
            Check.is("above it", 4, () -> above.make().whyNotJudge(0));
            Refused.state("above it", above, x -> x.judge(0));
            Made below = () -> {
                VernierDrawers x = Made.tool(4, -30);
                x.addType(100, -9, 9, 0);
                return brought(x, -71);
            };
            Check.is("below 0", 4, () -> below.make().whyNotJudge(0));
            Refused.state("below 0", below, x -> x.judge(0));
            VernierDrawers zero = Made.tool(4, -30);
            zero.addType(100, -9, 9, 0);
            Check.is("0", 0, () -> brought(zero, -70).whyNotJudge(0));
        });
    }

    private static void outcome(int kind, int lower, int upper, int deviation, int due) {
        Made made = () -> brought(withTool(kind, 0, lower, upper), deviation);
        String what = "kind " + kind + ", " + lower + " to " + upper + ": " + deviation;
        Check.is(what + " would", due, () -> made.make().wouldJudge(0));
        Check.is(what, due, () -> made.make().judge(0));
    }

    private static void doubted() {
        Sentences.term("If the piece was not doubted before, and its measured deviation is less than a step away from one of"
                + " both limits, it is doubted, and comes to the end of the bench.", () -> {
            int[][] dues = {{4, -20, 30, 29, 0}, {4, -20, 30, 30, 3}, {4, -20, 30, 31, 1},
                {4, -20, 30, -19, 0}, {4, -20, 30, -20, 3}, {4, -20, 30, -21, 2},
                {2, -20, 30, 28, 0}, {2, -20, 30, 30, 3}, {2, -20, 30, 32, 1},
                {2, -21, 31, 28, 0}, {2, -21, 31, 30, 3}, {2, -21, 31, 32, 3}, {2, -21, 31, 34, 1},
                {2, -21, 31, -18, 0}, {2, -21, 31, -20, 3}, {2, -21, 31, -22, 3}, {2, -21, 31, -24, 2},
                {1, -20, 30, 25, 0}, {1, -20, 30, 35, 1}, {1, -20, 30, -15, 0}, {1, -20, 30, -25, 2},
                {1, -19, 29, 25, 3}, {1, -19, 29, 30, 3}, {1, -19, 29, 20, 0}, {1, -19, 29, 35, 1},
                {0, -40, 40, 30, 0}, {0, -40, 40, 40, 3}, {0, -40, 40, 50, 1}, {0, -40, 40, -30, 0},
                {0, -40, 40, -40, 3}, {0, -40, 40, -50, 2},
                {0, -41, 41, 50, 3}, {0, -39, 39, 30, 3}, {0, -41, 41, 30, 0}, {0, -39, 39, 50, 1},
                {0, -41, 41, -50, 3}, {0, -39, 39, -30, 3}, {0, -41, 41, -30, 0}, {0, -39, 39, -50, 2}};
            for (int[] d : dues) {
                outcome(d[0], d[1], d[2], d[3], d[4]);
            }
            VernierDrawers x = brought(withTool(4, 0, -20, 30), 30, 0, 0);
            x.judge(0);
            Check.is("at the end", 1, () -> Check.of(x.wasDoubted(2)));
            Check.is("not the one ahead of it", 0, () -> Check.of(x.wasDoubted(1)));
            Check.is("as many as before", 3, x::onBench);
            VernierDrawers y = brought(withTool(4, 0, -20, 30), 30);
            Check.is("doubted", 3, () -> y.judge(0));
            Check.is("doubted before", 0, () -> y.judge(0));
            VernierDrawers full = brought(brought(withTool(4, 0, -20, 30), 30), new int[19]);
            Check.is("doubted on a full bench", 3, () -> full.judge(0));
            Check.is("20 still", 20, full::onBench);
            Check.is("at its end", 1, () -> Check.of(full.wasDoubted(19)));
        });
    }

    private static void results() {
        Sentences.term("Otherwise it is good, if the measured deviation is from the lower limit to the upper one; it comes to"
                + " the end of the queue of those to be filed, if it is above; it is thrown away, if it is below.", () -> {
            for (int limit : new int[] {30, -20}) {
                VernierDrawers x = brought(withTool(4, 0, -20, 30), limit);
                Check.is("doubted at " + limit, 3, () -> x.judge(0));
                Check.is("then good at " + limit, 0, () -> x.judge(0));
            }
            VernierDrawers odd = brought(withTool(2, 0, -21, 31), 32, -22);
            judgedTimes(odd, 2);
            Check.is("doubted, then above by 1", 1, () -> odd.judge(0));
            Check.is("doubted, then below by 1", 2, () -> odd.judge(0));
            VernierDrawers x = brought(withTool(4, 0, -20, 30), 31, -21, 29, 33);
            judgedTimes(x, 4);
            Check.is("to be filed", 2, x::toFile);
            Check.is("thrown away", 1, x::thrownAway);
            Check.is("good", 1, x::good);
            Check.is("none is left", 0, x::onBench);
            Check.is("the first of the queue", 30, () -> x.file(1));
            Check.is("the end of the queue", 32, () -> x.file(1));
            outcome(4, 0, 5, 0, 3);
            outcome(4, 0, 5, 1, 0);
            outcome(4, 0, 5, -1, 2);
            outcome(4, -5, 0, 1, 1);
        });
        Sentences.term("(These three are results; a result is bad, unless the piece is good.)", () -> {
            int[][] dues = {{0, 1, 0}, {40, 1, 1}, {-40, 1, 1}, {30, 0, 0}};
            for (int[] d : dues) {
                VernierDrawers x = brought(withTool(4, 0, -20, 30), d[0]);
                x.judge(0);
                Check.is("results at " + d[0], d[1], () -> x.recordOf(0));
                Check.is("bad ones at " + d[0], d[2], () -> x.badOf(0));
                Check.is("charted at " + d[0], d[1], () -> x.charted(0));
            }
        });
    }

    private static void filed() {
        Sentences.term("A piece that is filed is shorter by an amount, and comes to the end of the bench; it was not doubted"
                + " before then.", () -> {
            VernierDrawers x = withTool(2, 0, -21, 31);
            x.addType(1000, -9, 9, 0);
            brought(x, 32);
            judgedTimes(x, 2);
            x.bring(1, 0);
            Check.is("shorter by 1", 31, () -> x.file(1));
            Check.is("at the end", 0, () -> x.typeAt(1));
            Check.is("doubted in vain", 0, () -> Check.of(x.wasDoubted(1)));
            x.judge(0);
            Check.is("doubted again", 3, () -> x.judge(0));
            Check.is("then to be filed, as it is read", 1, () -> x.judge(0));
            Check.is("shorter by 99", -68, () -> x.file(99));
        });
    }

    private static void unseen() {
        Sentences.term("The first piece on the bench does not pass unseen for the first of these reasons that is so: 1 there"
                + " is none;", () -> {
            Check.is("none at all", 1, () -> Made.empty().whyNotPass());
            Check.is("none, but a type", 1, () -> Made.type(-9, 9).whyNotPass());
            Made none = () -> {
                VernierDrawers x = Made.passed();
                x.undo();
                return x;
            };
            Check.is("none, though the latest one passed", 1, () -> none.make().whyNotPass());
            Refused.state("none", none, VernierDrawers::passUnseen);
        });
        Sentences.term("2 its type is not looked at loosely;", () -> {
            Made plainly = () -> brought(Made.type(-20, 20), 0);
            Made strictly = () -> brought(Made.judged(-20, 20, 50, 50), 0);
            Made loosely = () -> brought(Made.judged(-20, 20, new int[10]), 0);
            Made oneLess = () -> brought(Made.judged(-20, 20, new int[9]), 0);
            Check.is("plainly", 2, () -> plainly.make().whyNotPass());
            Check.is("strictly", 2, () -> strictly.make().whyNotPass());
            Check.is("loosely", 0, () -> loosely.make().whyNotPass());
            Check.is("not loosely yet", 2, () -> oneLess.make().whyNotPass());
            Refused.state("plainly", plainly, VernierDrawers::passUnseen);
            Refused.state("strictly", strictly, VernierDrawers::passUnseen);
            Made again = () -> {
                VernierDrawers x = Made.passed();
                x.undo();
                Made.results(x, 50);
                return brought(x, 0);
            };
            Check.is("plainly, since one that passed", 2, () -> again.make().whyNotPass());
            Made other = () -> {
                VernierDrawers x = Made.judged(-20, 20, new int[10]);
                x.addType(1000, -20, 20, 2);
                x.bring(1, 0);
                return x;
            };
            Check.is("another type", 2, () -> other.make().whyNotPass());
        });
        Sentences.term("3 the latest piece of this type that was judged with a result, or passed unseen, passed unseen.",
            () -> {
                Check.is("passed", 3, () -> Made.passed().whyNotPass());
                Refused.state("passed", Made::passed, VernierDrawers::passUnseen);
                VernierDrawers x = Made.passed();
                brought(x, 20, 0);
                x.undo();
                x.judge(0);
                Check.is("a result", 0, x::whyNotPass);
                x.passUnseen();
                x.bring(0, 20);
                Check.is("passed again", 3, x::whyNotPass);
                Check.is("doubted", 3, () -> x.judge(0));
                Check.is("a doubt is no result", 3, x::whyNotPass);
                x.judge(0);
                x.bring(0, 0);
                Check.is("then it is one", 0, x::whyNotPass);
            });
        Sentences.term("A piece that passes unseen is gone, and is no result.", () -> {
            VernierDrawers x = brought(Made.judged(-20, 20, new int[10]), 200);
            x.passUnseen();
            Check.is("gone", 0, x::onBench);
            Check.is("not to be filed", 0, x::toFile);
            Check.is("not in the record", 0, () -> x.recordOf(0));
            Check.is("not in the chart", 10, () -> x.charted(0));
            Check.is("neither good nor bad", 1, x::goodShare);
            Check.is("still loosely", 2, () -> x.mannerOf(0));
        });
    }

    // ---- promises 8 to 12

    private static void addType() {
        Sentences.of(8, "A type comes.", () -> Check.is("one", 1, () -> Made.type(-9, 9).types()));
        Sentences.of(8, "- `length`: 100 to 14000", () -> {
            VernierDrawers x = Made.empty();
            x.addType(100, 0, 0, 0);
            x.addType(14000, 0, 0, 0);
            Check.is("100", 100, () -> x.lengthOf(0));
            Check.is("14000", 14000, () -> x.lengthOf(1));
            Refused.numbers("length", Made::empty, (y, length) -> y.addType(length, 0, 0, 0), 99, 14001);
        });
        Sentences.of(8, "- `lower`: -99 to 0", () -> {
            VernierDrawers x = Made.empty();
            x.addType(100, -99, 0, 0);
            x.addType(100, 0, 0, 0);
            Check.is("-99", 99, () -> x.widthOf(0));
            Check.is("0", 0, () -> x.widthOf(1));
            Refused.numbers("lower", Made::empty, (y, lower) -> y.addType(100, lower, 50, 0), -100, 1);
        });
        Sentences.of(8, "- `upper`: 0 to 99", () -> {
            VernierDrawers x = Made.empty();
            x.addType(100, 0, 99, 0);
            x.addType(100, 0, 0, 0);
            Check.is("99", 99, () -> x.widthOf(0));
            Check.is("0", 0, () -> x.widthOf(1));
            Refused.numbers("upper", Made::empty, (y, upper) -> y.addType(100, -50, upper, 0), -1, 100);
        });
        Sentences.of(8, "- `material`: 0 to 2", () -> {
            int[] due = {0, 0, 1};
            for (int material = 0; material < 3; material++) {
                VernierDrawers x = Made.tool(4, 0);
                x.setWarmth(50);
                x.addType(1600, -9, 9, material);
                x.bring(0, 0);
                x.judge(0);
                Check.is("material " + material, due[material], () -> x.chartedAt(0, 0));
            }
            Refused.numbers("material", Made::empty, (y, material) -> y.addType(100, 0, 0, material), -1, 3);
        });
        Sentences.of(8, "Returns its number.", () -> {
            VernierDrawers x = Made.empty();
            Check.is("the first", 0, () -> x.addType(100, 0, 0, 0));
            Check.is("the second", 1, () -> x.addType(100, 0, 0, 0));
        });
        Sentences.of(8, "Throws `IllegalArgumentException` if length, lower, upper or material is out of range", () -> {
            Refused.argument("the length", Made::busy, x -> x.addType(99, 0, 0, 0));
            Refused.argument("the lower limit", Made::busy, x -> x.addType(100, 1, 1, 0));
            Refused.argument("the upper limit", Made::busy, x -> x.addType(100, -1, -1, 0));
            Refused.argument("the material", Made::busy, x -> x.addType(100, 0, 0, 3));
            Refused.argument("all", Made::busy, x -> x.addType(14001, -100, 100, -1));
            Refused.argument("though there are 5", Made::full, x -> x.addType(14001, 0, 0, 0));
        });
        Sentences.of(8, "Throws `IllegalStateException` if there are 5", () -> {
            Refused.state("5", Made::full, x -> x.addType(14000, -99, 99, 2));
            VernierDrawers x = Made.empty();
            for (int i = 0; i < 4; i++) {
                x.addType(100, 0, 0, 0);
            }
            Check.is("4", 4, () -> x.addType(100, 0, 0, 0));
        });
    }

    private static void bring() {
        Sentences.of(9, "A piece comes to the end of the bench.", () -> {
            VernierDrawers x = Made.busy();
            x.bring(0, 0);
            Check.is("one more", 4, x::onBench);
            Check.is("at the end", 0, () -> x.typeAt(3));
            Check.is("not ahead of it", 1, () -> x.typeAt(2));
            Check.is("not doubted", 0, () -> Check.of(x.wasDoubted(3)));
        });
        Sentences.of(9, "- `type`: its number", () -> {
            VernierDrawers x = Made.busy();
            x.bring(0, 0);
            x.bring(1, 0);
            Check.is("the first one", 0, () -> x.typeAt(3));
            Check.is("the last one", 1, () -> x.typeAt(4));
            Refused.numbers("type", Made::busy, (y, type) -> y.bring(type, 0), -1, 2);
        });
        Sentences.of(9, "- `deviation`: -200 to 200, but so that its length is 1 or more", () -> {
            Check.is("-200", 1, () -> brought(Made.type(-9, 9), -200).onBench());
            Check.is("200", 1, () -> brought(Made.type(-9, 9), 200).onBench());
            Refused.numbers("deviation", Made::busy, (x, deviation) -> x.bring(0, deviation), -201, 201);
            for (int length : new int[] {100, 199, 200}) {
                Made made = () -> {
                    VernierDrawers x = Made.empty();
                    x.addType(length, 0, 0, 0);
                    return x;
                };
                Check.is("length 1 of " + length, 1, () -> made.make().bring(0, 1 - length));
                Refused.argument("length 0 of " + length, made, x -> x.bring(0, -length));
                Refused.argument("length -1 of " + length, made, x -> x.bring(0, -length - 1));
            }
            VernierDrawers x = Made.empty();
            x.addType(201, 0, 0, 0);
            Check.is("length 1 of 201", 1, () -> x.bring(0, -200));
        });
        Sentences.of(9, "Returns how many pieces are on the bench then.", () -> {
            VernierDrawers x = Made.type(-9, 9);
            for (int i = 1; i <= 20; i++) {
                Check.is("piece " + i, i, () -> x.bring(0, 0));
            }
        });
        Sentences.of(9, "Throws `IllegalArgumentException` if there is no such type, or deviation is out of range", () -> {
            Refused.argument("no type", Made::empty, x -> x.bring(0, 0));
            Refused.argument("the type", Made::busy, x -> x.bring(2, 0));
            Refused.argument("the deviation", Made::busy, x -> x.bring(0, 201));
            Refused.argument("the length", Made::busy, x -> x.bring(1, -150));
            Refused.argument("though there are 20", Made::full, x -> x.bring(5, 0));
            Refused.argument("the deviation, though there are 20", Made::full, x -> x.bring(0, -201));
        });
        Sentences.of(9, "Throws `IllegalStateException` if there are 20 on the bench", () -> {
            Refused.state("20", Made::full, x -> x.bring(4, 0));
            VernierDrawers x = Made.full();
            x.undo();
            Check.is("19", 20, () -> x.bring(4, 0));
        });
    }

    private static void judge() {
        Sentences.of(10, "Judges the first piece on the bench.", () -> {
            VernierDrawers x = brought(withTool(4, 0, -20, 30), 40, 0);
            Check.is("the first one", 1, () -> x.judge(0));
            Check.is("the next one", 0, () -> x.judge(0));
        });
        Sentences.of(10, "- `tool`: its number", () -> {
            Made two = () -> {
                VernierDrawers x = withTool(4, 0, -30, 30);
                x.addTool(0, 0);
                return brought(x, 4);
            };
            VernierDrawers x = two.make();
            x.judge(0);
            Check.is("the first one", 4, () -> x.chartedAt(0, 0));
            VernierDrawers y = two.make();
            y.judge(1);
            Check.is("the last one", 0, () -> y.chartedAt(0, 0));
            Refused.numbers("tool", two, VernierDrawers::judge, -1, 2);
        });
        Sentences.of(10, "Returns 0 it is good, 1 it is to be filed, 2 it is thrown away, 3 it is doubted.", () -> {
            Check.is("good", 0, () -> brought(withTool(4, 0, -20, 30), 29).judge(0));
            Check.is("to be filed", 1, () -> brought(withTool(4, 0, -20, 30), 31).judge(0));
            Check.is("thrown away", 2, () -> brought(withTool(4, 0, -20, 30), -21).judge(0));
            Check.is("doubted", 3, () -> brought(withTool(4, 0, -20, 30), -20).judge(0));
        });
        Sentences.of(10, "Throws `IllegalArgumentException` if there is no such tool", () -> {
            Refused.argument("no tool", Made::empty, x -> x.judge(0));
            Refused.argument("tool 6 of six", Made::full, x -> x.judge(6));
            Refused.argument("tool 1, and no piece", () -> Made.tool(4, 0), x -> x.judge(1));
        });
        Sentences.of(10, "Throws `IllegalStateException` for the reasons of whyNotJudge()", () -> {
            Refused.state("1", () -> Made.tool(4, 0), x -> x.judge(0));
            Refused.state("2", () -> typed(brought(withTool(4, 0, -9, 9), 0), "d;".repeat(10)), x -> x.judge(0));
            Refused.state("3", Made::busy, x -> x.judge(1));
            Refused.state("4", () -> {
                VernierDrawers x = Made.tool(3, 0);
                x.addType(2600, -9, 9, 0);
                return brought(x, 0);
            }, x -> x.judge(0));
        });
    }

    private static void file() {
        Sentences.of(11, "Files the first piece of those to be filed.", () -> {
            VernierDrawers x = Made.busy();
            x.file(10);
            Check.is("one is left", 1, x::toFile);
            Check.is("on the bench", 4, x::onBench);
            Check.is("then the second one", 51, () -> x.file(10));
            VernierDrawers y = withTool(4, 0, -20, 30);
            y.addType(1000, -20, 30, 0);
            y.bring(1, 40);
            y.bring(0, 40);
            judgedTimes(y, 2);
            y.file(1);
            Check.is("with its type", 1, () -> y.typeAt(0));
            y.file(1);
            Check.is("the second one with its type", 0, () -> y.typeAt(1));
        });
        Sentences.of(11, "- `amount`: 1 to 99", () -> {
            Check.is("1", 59, () -> Made.busy().file(1));
            Check.is("99", -39, () -> Made.busy().file(99));
            Refused.numbers("amount", Made::busy, VernierDrawers::file, 0, -1, 100);
        });
        Sentences.of(11, "Returns its deviation then.", () -> {
            VernierDrawers x = brought(withTool(4, 0, -20, 30), 200, 31);
            judgedTimes(x, 2);
            Check.is("the greatest", 199, () -> x.file(1));
            Check.is("below 0", -68, () -> x.file(99));
        });
        Sentences.of(11, "Throws `IllegalArgumentException` if amount is out of range", () -> {
            Refused.argument("0", Made::busy, x -> x.file(0));
            Refused.argument("100", Made::busy, x -> x.file(100));
            Refused.argument("0 of none", Made::empty, x -> x.file(0));
            Refused.argument("100, though there are 20", Made::full, x -> x.file(100));
        });
        Sentences.of(11, "Throws `IllegalStateException` if there is none, its length would be below 1, or there are 20 on the"
                + " bench", () -> {
            Refused.state("none", Made::empty, x -> x.file(1));
            Refused.state("none to be filed", () -> brought(withTool(4, 0, -20, 30), 40), x -> x.file(1));
            Refused.state("length 0", BenchSentences::shortToFile, x -> x.file(98));
            Refused.state("length -1", BenchSentences::shortToFile, x -> x.file(99));
            Check.is("length 1", -99, () -> shortToFile().file(97));
            Refused.state("20", Made::full, x -> x.file(1));
            VernierDrawers x = Made.full();
            x.undo();
            Check.is("19", 59, () -> x.file(1));
            Check.is("then 20", 20, x::onBench);
        });
    }

    private static void passUnseen() {
        Made loose = () -> brought(Made.judged(-20, 20, new int[10]), 0, 7);
        Sentences.of(12, "Lets the first piece on the bench pass unseen.", () -> {
            VernierDrawers x = loose.make();
            x.passUnseen();
            Check.is("one is left", 1, x::onBench);
            x.judge(0);
            Check.is("the second one", 7, () -> x.chartedAt(0, 10));
        });
        Sentences.of(12, "Returns its type.", () -> {
            Check.is("the first", 0, () -> loose.make().passUnseen());
            VernierDrawers x = Made.tool(4, 0);
            for (int i = 0; i < 5; i++) {
                x.addType(1000, -20, 20, 2);
            }
            typed(x, "p4,0;j0;".repeat(7));
            typed(x, "p4,0;j0;".repeat(3));
            x.bring(4, 0);
            x.bring(0, 0);
            Check.is("the last type, the first piece", 4, x::passUnseen);
            Check.is("the other one is left", 0, () -> x.typeAt(0));
        });
        Sentences.of(12, "Throws `IllegalStateException` for the reasons of whyNotPass()", () -> {
            Refused.state("1", Made::empty, VernierDrawers::passUnseen);
            Refused.state("2", Made::busy, VernierDrawers::passUnseen);
            Refused.state("3", Made::passed, VernierDrawers::passUnseen);
        });
    }

    // ---- promises 38 to 48

    private static void looksAtTypes() {
        Sentences.of(38, "Returns how many types there are.", () -> {
            Check.is("none", 0, () -> Made.empty().types());
            Check.is("two", 2, () -> Made.busy().types());
        });
        Sentences.of(38, "Returns how many.", () -> Check.is("five", 5, () -> Made.full().types()));
        lookAtTypes(39, "Returns the length of a type.", "Returns the length.", VernierDrawers::lengthOf, 2000, 150);
        lookAtTypes(40, "Returns how wide the limits of a type are: the upper one less the lower one.", "Returns how wide.",
                VernierDrawers::widthOf, 50, 18);
        Sentences.of(40, "Returns how wide.", () -> {
            VernierDrawers x = Made.empty();
            x.addType(14000, -99, 99, 0);
            x.addType(100, 0, 0, 0);
            Check.is("the widest", 198, () -> x.widthOf(0));
            Check.is("the narrowest", 0, () -> x.widthOf(1));
        });
    }

    private static void lookAtTypes(int promise, String what, String answer, Refused.ByNumber call, double first,
            double second) {
        Sentences.of(promise, what, () -> Check.is("of the first", first, () -> call.of(Made.busy(), 0)));
        Sentences.of(promise, answer, () -> Check.is("of the second", second, () -> call.of(Made.busy(), 1)));
        Sentences.of(promise, "- `type`: its number", () -> {
            Check.is("the first one", first, () -> call.of(Made.busy(), 0));
            Check.is("the last one", second, () -> call.of(Made.busy(), 1));
            Refused.numbers("type", Made::busy, call, -1, 2);
        });
        Sentences.of(promise, "Throws `IllegalArgumentException` if there is no such type", () -> {
            Refused.argument("no type", Made::empty, x -> call.of(x, 0));
            Refused.numbers("of five", Made::full, call, -1, 5);
        });
    }

    private static void looksAtBench() {
        Sentences.of(41, "Returns how many pieces are on the bench.", () -> {
            Check.is("none", 0, () -> Made.empty().onBench());
            Check.is("three", 3, () -> Made.busy().onBench());
        });
        Sentences.of(41, "Returns how many.", () -> Check.is("twenty", 20, () -> Made.full().onBench()));
        Sentences.of(42, "Returns the type of a piece on the bench.",
            () -> Check.is("the middle one", 0, () -> Made.busy().typeAt(1)));
        places(42, VernierDrawers::typeAt, 1, 4);
        Sentences.of(42, "Returns the type.", () -> {
            Check.is("the first one", 1, () -> Made.busy().typeAt(0));
            Check.is("the last one", 1, () -> Made.busy().typeAt(2));
        });
        Sentences.of(43, "Tells whether a piece on the bench was doubted.",
            () -> Check.is("it was", 1, () -> Check.of(Made.busy().wasDoubted(1))));
        places(43, (x, place) -> Check.of(x.wasDoubted(place)), 0, 0);
        Sentences.of(43, "Returns whether it was.", () -> {
            Check.is("it was", 1, () -> Check.of(Made.busy().wasDoubted(1)));
            Check.is("it was not", 0, () -> Check.of(Made.busy().wasDoubted(2)));
        });
        Sentences.of(44, "Returns how many pieces are to be filed.", () -> {
            Check.is("none", 0, () -> Made.empty().toFile());
            Check.is("two", 2, () -> Made.busy().toFile());
        });
        Sentences.of(44, "Returns how many.", () -> Check.is("one", 1, () -> Made.full().toFile()));
    }

    /** What the first place of Made.busy() answers, and the last one of Made.full(). */
    private static void places(int promise, Refused.ByNumber call, int first, int last) {
        Sentences.of(promise, "- `place`: 0 for the first one, and so on", () -> {
            Check.is("the first one", first, () -> call.of(Made.busy(), 0));
            Check.is("the last one of twenty", last, () -> call.of(Made.full(), 19));
        });
        Sentences.of(promise, "Throws `IllegalArgumentException` if place is below 0", () -> {
            Refused.argument("-1", Made::busy, x -> call.of(x, -1));
            Refused.argument("far below", Made::busy, x -> call.of(x, Integer.MIN_VALUE));
            Refused.argument("-1 of none", Made::empty, x -> call.of(x, -1));
        });
        Sentences.of(promise, "Throws `NoSuchElementException` if there are not so many", () -> {
            Refused.element("0 of none", Made::empty, x -> call.of(x, 0));
            Refused.element("3 of three", Made::busy, x -> call.of(x, 3));
            Refused.element("19 of three", Made::busy, x -> call.of(x, 19));
            Refused.element("20 of twenty", Made::full, x -> call.of(x, 20));
            Refused.element("far above", Made::full, x -> call.of(x, Integer.MAX_VALUE));
        });
    }

    private static void looksAtJudging() {
        Sentences.of(45, "Tells why the first piece on the bench is not judged with a tool.", () -> {
            Check.is("none", 1, () -> Made.tool(4, 0).whyNotJudge(0));
            Check.is("it is judged", 0, () -> Made.busy().whyNotJudge(0));
        });
        toolNumbers(45, VernierDrawers::whyNotJudge, 0, 3);
        Sentences.of(45, "Returns the reason, 1 to 4; 0 if it is judged.", () -> {
            Check.is("0", 0, () -> brought(withTool(4, 0, -9, 9), 0).whyNotJudge(0));
            Check.is("1", 1, () -> withTool(4, 0, -9, 9).whyNotJudge(0));
            Check.is("2", 2, () -> typed(brought(withTool(4, 0, -9, 9), 0), "d;".repeat(10)).whyNotJudge(0));
            Check.is("3", 3, () -> brought(withTool(0, 0, -9, 9), 0).whyNotJudge(0));
            VernierDrawers x = Made.tool(4, 0);
            x.addType(2501, -9, 9, 0);
            Check.is("4", 4, () -> brought(x, 0).whyNotJudge(0));
        });
        noSuchTool(45, VernierDrawers::whyNotJudge);
        Sentences.of(46, "Returns what judging the first piece on the bench with a tool would tell.", () -> {
            VernierDrawers x = brought(withTool(4, 0, -9, 9), 10, 0);
            Check.is("the first one", 1, () -> x.wouldJudge(0));
            Check.is("still", 1, () -> x.wouldJudge(0));
        });
        Sentences.of(46, "- `tool`: its number", () -> {
            Made two = () -> {
                VernierDrawers x = withTool(4, 0, -30, 30);
                x.addTool(0, 0);
                return brought(x, 26);
            };
            Check.is("the first one", 0, () -> two.make().wouldJudge(0));
            Check.is("the last one", 3, () -> two.make().wouldJudge(1));
            Refused.numbers("tool", two, VernierDrawers::wouldJudge, -1, 2);
        });
        Sentences.of(46, "Returns 0 to 3, as told of judge().", () -> {
            int[][] dues = {{0, 0}, {9, 3}, {10, 1}, {-9, 3}, {-10, 2}};
            for (int[] d : dues) {
                Check.is("at " + d[0], d[1], () -> brought(withTool(4, 0, -9, 9), d[0]).wouldJudge(0));
                Check.is("judged at " + d[0], d[1], () -> brought(withTool(4, 0, -9, 9), d[0]).judge(0));
            }
            Check.is("doubted before", 0, () -> judgedTimes(brought(withTool(4, 0, -9, 9), 9), 1).wouldJudge(0));
        });
        noSuchTool(46, VernierDrawers::wouldJudge);
        Sentences.of(46, "Throws `NoSuchElementException` if it is not judged", () -> {
            Refused.element("1", () -> withTool(4, 0, -9, 9), x -> x.wouldJudge(0));
            Refused.element("2", () -> typed(brought(withTool(4, 0, -9, 9), 0), "d;".repeat(10)), x -> x.wouldJudge(0));
            Refused.element("3", Made::busy, x -> x.wouldJudge(1));
            Refused.element("4", () -> {
                VernierDrawers x = Made.tool(4, 0);
                x.addType(2501, -9, 9, 0);
                return brought(x, 0);
            }, x -> x.wouldJudge(0));
        });
    }

    private static void toolNumbers(int promise, Refused.ByNumber call, double first, double second) {
        Sentences.of(promise, "- `tool`: its number", () -> {
            Check.is("the first one", first, () -> call.of(Made.busy(), 0));
            Check.is("the last one", second, () -> call.of(Made.busy(), 1));
            Refused.numbers("tool", Made::busy, call, -1, 2);
        });
    }

    private static void noSuchTool(int promise, Refused.ByNumber call) {
        Sentences.of(promise, "Throws `IllegalArgumentException` if there is no such tool", () -> {
            Refused.argument("no tool, and no piece", Made::empty, x -> call.of(x, 0));
            Refused.argument("tool 1 of one", () -> Made.tool(4, 0), x -> call.of(x, 1));
            Refused.argument("tool 6 of six", Made::full, x -> call.of(x, 6));
            Refused.argument("tool -1", Made::full, x -> call.of(x, -1));
        });
    }

    private static void bestTool() {
        Sentences.of(47, "Returns the tool that is best for the first piece on the bench: of those with which it is judged"
                + " that with the least step, of several the lowest.", () -> {
            VernierDrawers x = Made.tool(0, 0);
            x.addType(1000, -30, 30, 0);
            x.bring(0, 0);
            Check.is("one", 0, x::bestTool);
            x.addTool(1, 0);
            Check.is("step 5", 1, x::bestTool);
            x.addTool(1, 0);
            Check.is("of two the lowest", 1, x::bestTool);
            x.addTool(4, 0);
            Check.is("step 1", 3, x::bestTool);
            x.addTool(2, 0);
            Check.is("a later one, step 2", 3, x::bestTool);
            x.addTool(3, 0);
            Check.is("of two with step 1", 3, x::bestTool);
            Check.write(x, "m3,9;".repeat(10));
            Check.playTimes(x, 3);
            Check.is("not one that is due", 5, x::bestTool);
            x.addType(2501, -30, 30, 0);
            x.judge(5);
            x.bring(1, 0);
            Check.is("not one that cannot be read", 4, x::bestTool);
        });
        Sentences.of(47, "Returns its number.", () -> {
            Check.is("the first", 0, () -> Made.full().bestTool());
            VernierDrawers x = Made.tool(0, 0);
            for (int i = 0; i < 4; i++) {
                x.addTool(0, 0);
            }
            x.addTool(2, 0);
            x.addType(1000, -25, 24, 0);
            x.bring(0, 0);
            Check.is("the last", 5, x::bestTool);
        });
        Sentences.of(47, "Throws `NoSuchElementException` if there is none", () -> {
            Refused.element("no tool", Made::empty, VernierDrawers::bestTool);
            Refused.element("no piece", () -> withTool(4, 0, -9, 9), VernierDrawers::bestTool);
            Refused.element("all too coarse", () -> brought(withTool(0, 0, -9, 9), 0), VernierDrawers::bestTool);
            Refused.element("all due", () -> typed(brought(withTool(4, 0, -9, 9), 0), "d;".repeat(10)),
                    VernierDrawers::bestTool);
        });
    }

    private static void whyNotPass() {
        Sentences.of(48, "Tells why the first piece on the bench does not pass unseen.",
            () -> Check.is("none", 1, () -> Made.empty().whyNotPass()));
        Sentences.of(48, "Returns the reason, 1 to 3; 0 if it passes.", () -> {
            Check.is("0", 0, () -> brought(Made.judged(-20, 20, new int[10]), 0).whyNotPass());
            Check.is("1", 1, () -> Made.judged(-20, 20, new int[10]).whyNotPass());
            Check.is("2", 2, () -> Made.busy().whyNotPass());
            Check.is("3", 3, () -> Made.passed().whyNotPass());
        });
    }

    // ---- promises 60 to 67

    private static void accounts() {
        account(60, "Returns the days that have ended.", "Returns how many.", VernierDrawers::days, 1, 999,
            () -> Made.late(999));
        account(61, "Returns how many pieces came to the bench, filed ones not counted once more.",
            "Returns how many so far.", VernierDrawers::brought, 7, 33, Made::full);
        account(62, "Returns the same, told by where pieces are: on the bench, to be filed, good, thrown away, or passed"
                + " unseen.", "Returns how many so far.", VernierDrawers::broughtByPlaces, 7, 33, Made::full);
        account(63, "Returns how many pieces were good.", "Returns how many so far.", VernierDrawers::good, 1, 12,
            Made::full);
        account(64, "Returns how many pieces were thrown away.", "Returns how many so far.", VernierDrawers::thrownAway, 1,
            2, () -> Made.judged(-20, 20, -40, 0, -40));
        account(65, "Returns how many pieces passed unseen.", "Returns how many so far.", VernierDrawers::unseen, 0, 1,
            Made::passed);
        account(66, "Returns how often a piece was doubted.", "Returns how often so far.", VernierDrawers::doubts, 1, 2,
            () -> Made.judged(-20, 20, -20, 0, 20));
        Sentences.of(61, "filed ones not counted once more.",
            () -> Check.is("a filed one", 7, () -> filedOnce().brought()));
        Sentences.of(62, "on the bench, to be filed, good, thrown away, or passed unseen.", () -> {
            Check.is("on the bench", 1, () -> brought(withTool(4, 0, -20, 30), 0).broughtByPlaces());
            int[] deviations = {31, 0, -21};
            for (int deviation : deviations) {
                Check.is("judged, " + deviation, 1,
                        () -> judgedTimes(brought(withTool(4, 0, -20, 30), deviation), 1).broughtByPlaces());
            }
            Check.is("filed", 7, () -> filedOnce().broughtByPlaces());
            Check.is("passed unseen", 12, () -> Made.passed().broughtByPlaces());
        });
        Sentences.of(66, "Returns how often a piece was doubted.", () -> Check.is("filed, and doubted again", 2, () -> {
            VernierDrawers x = judgedTimes(brought(withTool(2, 0, -21, 31), 32), 2);
            x.file(1);
            x.judge(0);
            return x.doubts();
        }));
        goodShare();
    }

    private static VernierDrawers filedOnce() {
        VernierDrawers x = Made.busy();
        x.file(10);
        return x;
    }

    /** What a new object answers is 0; and what Made.busy() answers, and another one. */
    private static void account(int promise, String what, String answer, Refused.OnOne look, int ofBusy, int ofOther,
            Made other) {
        Sentences.of(promise, what, () -> {
            Check.is("of nothing", 0, () -> look.of(Made.empty()));
            Check.is("of some", ofBusy, () -> look.of(Made.busy()));
        });
        Sentences.of(promise, answer, () -> Check.is("of more", ofOther, () -> look.of(other.make())));
    }

    private static void goodShare() {
        Sentences.of(67, "Returns the share of results that are good: how many, as a float, divided by all results, as a"
                + " float.", () -> {
            Check.is("one of four", 0.25f, () -> Made.busy().goodShare());
            Check.is("one of three", 1.0f / 3.0f, () -> Made.judged(-20, 20, 0, 50, -50).goodShare());
            Check.is("two of three", 2.0f / 3.0f, () -> Made.judged(-20, 20, 0, 50, 20).goodShare());
        });
        Sentences.of(67, "Returns the share.", () -> {
            Check.is("none", 0.0f, () -> Made.judged(-20, 20, 50).goodShare());
            Check.is("all", 1.0f, () -> Made.judged(-20, 20, 0).goodShare());
        });
        Sentences.of(67, "Throws `NoSuchElementException` if there were none", () -> {
            Refused.element("no piece", Made::empty, VernierDrawers::goodShare);
            Refused.element("a piece", () -> brought(withTool(4, 0, -9, 9), 0), VernierDrawers::goodShare);
            Refused.element("a doubted one", () -> judgedTimes(brought(withTool(4, 0, -9, 9), 9), 1),
                    VernierDrawers::goodShare);
            Refused.element("one that was undone", () -> {
                VernierDrawers x = judgedTimes(brought(withTool(4, 0, -9, 9), 0), 1);
                x.undo();
                return x;
            }, VernierDrawers::goodShare);
        });
    }
}
