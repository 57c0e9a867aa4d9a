/** The sentences on the snapshot, the history and texts: promises 1 and 68 to 77, and their terms. */
final class HistorySentences {
    private HistorySentences() {
    }

    static void test() {
        manyCalls();
        ordersOfTexts();
        ordersOfPieces();
        numbersOfTexts();
        faults();
        breaksOff();
        causes();
        textStays();
        changes();
        history();
        firstException();
        changesNothing();
        newObject();
        keepAndGoBack();
        undo();
        type();
        faultCalls();
        play();
    }

    /** Does something with an object and gives it back. */
    private static VernierDrawers with(VernierDrawers x, Refused.OnOne call) {
        call.of(x);
        return x;
    }

    private static VernierDrawers written(VernierDrawers x, String text) {
        Check.write(x, text);
        return x;
    }

    private static void fault(String text, int position, int reason, int cause) {
        Check.is("the position in " + text, position, () -> Made.text(text).faultPosition());
        Check.is("the reason in " + text, reason, () -> Made.text(text).faultReason());
        Check.is("the cause in " + text, cause, () -> Made.text(text).faultCause());
        Refused.state("playing " + text, () -> Made.text(text), VernierDrawers::play);
    }

    private static void noFault(String text, int orders) {
        Check.refuses("the position in " + text, Check.ELEMENT, () -> Made.text(text).faultPosition());
        Check.refuses("the reason in " + text, Check.ELEMENT, () -> Made.text(text).faultReason());
        Check.refuses("the cause in " + text, Check.ELEMENT, () -> Made.text(text).faultCause());
        Check.is("playing " + text, orders, () -> Made.text(text).play());
    }

    private static VernierDrawers played(String text) {
        return with(Made.text(text), VernierDrawers::play);
    }

    // ---- what it is

    private static void manyCalls() {
        Sentences.use("An object is used for at most 512 calls after it has been made; what later calls answer is free.",
            () -> {
                VernierDrawers x = Made.tool(0, 0);
                for (int i = 0; i < 510; i++) {
                    x.measure(0, 2, 15000);
                }
                Check.is("the 512th call", 510, () -> x.usesOf(0));
                VernierDrawers y = Made.empty();
                for (int i = 0; i < 511; i++) {
                    y.setWarmth(i % 61 - 10);
                }
                Check.is("the 512th change", 510 % 61 - 10, () -> y.setWarmth(20));
                Check.is("a long queue", 6 * 454, () -> longQueue().toFile());
            });
    }

    /** In 511 calls: each of the plays calibrates the tool, and lets 6 pieces come that are to be filed. */
    private static VernierDrawers longQueue() {
        VernierDrawers x = Made.tool(4, 30);
        x.addBlock(99, 0);
        x.addType(1000, -5, 0, 2);
        Check.type(x, "c0,99;" + "p0,9;j0;".repeat(6));
        Check.playTimes(x, 454);
        return x;
    }

    // ---- the terms of texts

    private static void ordersOfTexts() {
        Sentences.term("There is a text of at most 60 characters, initially empty:", () -> {
            Check.is("empty", 0, () -> Made.empty().clearText());
            Check.refuses("empty, without a fault", Check.ELEMENT, () -> Made.empty().faultPosition());
            VernierDrawers x = Made.empty();
            for (int i = 1; i <= 60; i++) {
                Check.is("character " + i, i, () -> x.type('d'));
            }
            Check.is("60", 60, x::clearText);
            Refused.state("character 61", Made::full, y -> y.type('d'));
            Check.is("60 of 30 orders", 30, () -> played("d;".repeat(30)).days());
        });
        Sentences.term("orders, each followed by \";\":", () -> {
            noFault("", 0);
            noFault("d;", 1);
            noFault("d;d;", 2);
            fault("d", 0, 1, 1);
            fault("d;d", 2, 1, 1);
            fault("dd;", 0, 1, 1);
            fault("d,", 0, 1, 1);
            fault(";", 0, 1, 0);
            fault("d;;", 2, 1, 0);
            fault("d; d;", 2, 1, 0);
            fault(" d;", 0, 1, 0);
        });
        Sentences.term("\"m\" a tool, \",\", a length (of steel, measured),", () -> {
            noFault("m0,0;", 1);
            noFault("m0,2500;", 1);
            fault("m0,2501;", 0, 2, 2);
            fault("m0,15000;", 0, 2, 2);
            fault("m0,15001;", 0, 2, 1);
            fault("m1,0;", 0, 2, 1);
            fault("m;", 0, 1, 1);
            fault("m,0;", 0, 1, 1);
            fault("m0;", 0, 1, 2);
            fault("m0,;", 0, 1, 3);
            fault("m0,0,0;", 0, 1, 4);
            fault("m-1,0;", 0, 1, 1);
            Check.is("is a use", 1, () -> played("m0,0;").usesOf(0));
            Check.is("of steel, 18", 0, () -> played("m0,0;".repeat(6)).wearOf(0));
            Check.is("of steel, 21", 1, () -> played("m0,0;".repeat(7)).wearOf(0));
            Check.is("of steel, as warm as the tool", 1, () -> with(Made.text("m0,2500;"), x -> x.setWarmth(50)).play());
        });
        Sentences.term("\"c\" a tool, \",\", a length (calibrated),", () -> {
            noFault("c0,100;", 1);
            fault("c0,99;", 0, 2, 2);
            fault("c0,101;", 0, 2, 2);
            fault("c0,0;", 0, 2, 1);
            fault("c0,15000;", 0, 2, 2);
            fault("c0,15001;", 0, 2, 1);
            fault("c1,100;", 0, 2, 1);
            fault("c0;", 0, 1, 2);
            fault("c;", 0, 1, 1);
            Check.is("is no use that is counted", 30, () -> played("c0,100;").usesLeft(0));
            Check.is("is a use", 1, () -> played("c0,100;").usesOf(0));
            VernierDrawers x = Made.tool(4, 7);
            x.addBlock(100, 0);
            Check.write(x, "c0,100;");
            x.play();
            Check.is("is known", 7, () -> x.knownError(0));
        });
    }

    private static void ordersOfPieces() {
        Sentences.term("\"p\" a type, \",\", a deviation (a piece comes),", () -> {
            noFault("p0,0;", 1);
            noFault("p0,200;", 1);
            fault("p0,201;", 0, 2, 1);
            fault("p1,0;", 0, 2, 1);
            fault("p0,-1;", 0, 1, 3);
            fault("p0;", 0, 1, 2);
            fault("p;", 0, 1, 1);
            Check.is("comes", 1, () -> played("p0,0;").onBench());
            Check.is("the 20th", 20, () -> with(written(played("p0,0;".repeat(10)), "p0,0;".repeat(10)),
                    VernierDrawers::play).onBench());
            Made twenty = () -> {
                VernierDrawers x = Made.text("p0,0;".repeat(10));
                x.play();
                x.play();
                return written(x, "p0,0;");
            };
            Check.is("the 21st", 2, () -> twenty.make().faultReason());
            Check.is("the 21st, the cause", 2, () -> twenty.make().faultCause());
            Refused.state("the 21st, played", twenty, VernierDrawers::play);
        });
        Sentences.term("\"j\" a tool (the first piece is judged),", () -> {
            noFault("p0,0;j0;", 2);
            fault("j0;", 0, 2, 2);
            fault("p0,0;j0;j0;", 8, 2, 2);
            fault("p0,0;j1;", 5, 2, 1);
            fault("j1;", 0, 2, 1);
            fault("j;", 0, 1, 1);
            fault("j0,0;", 0, 1, 2);
            Check.is("is judged", 1, () -> played("p0,0;j0;").good());
            Check.is("the first one", 50, () -> played("p0,50;p0,0;j0;").chartedAt(0, 0));
        });
        Sentences.term("\"f\" an amount (the first piece to be filed is filed),", () -> {
            noFault("p0,50;j0;f1;", 3);
            noFault("p0,50;j0;f99;", 3);
            fault("p0,50;j0;f0;", 9, 2, 1);
            fault("p0,50;j0;f100;", 9, 2, 1);
            fault("f1;", 0, 2, 2);
            fault("f0;", 0, 2, 1);
            fault("p0,0;j0;f1;", 8, 2, 2);
            fault("f;", 0, 1, 1);
            fault("f1,1;", 0, 1, 2);
            Check.is("is filed", 0, () -> played("p0,50;j0;f40;").toFile());
            Check.is("the first one, by 40", 10, () -> played("p0,50;p0,60;j0;j0;f40;j0;").chartedAt(0, 2));
        });
        Sentences.term("\"u\" (the first piece passes unseen)", () -> {
            fault("u;", 0, 2, 2);
            fault("p0,0;u;", 5, 2, 2);
            fault("u0;", 0, 1, 1);
            fault("u", 0, 1, 1);
            Made loose = () -> {
                VernierDrawers x = Made.judged(-20, 20, new int[10]);
                return written(x, "p0,99;u;");
            };
            Check.is("two orders", 2, () -> loose.make().play());
            Check.is("one passes", 1, () -> with(loose.make(), VernierDrawers::play).unseen());
            Made again = () -> written(with(loose.make(), VernierDrawers::play), "p0,0;j0;p0,0;u;p0,0;u;");
            Check.is("passes again behind a result, but not twice", 20, () -> again.make().faultPosition());
            Refused.state("passes twice", again, VernierDrawers::play);
        });
        Sentences.term("or \"d\" (a day ends);", () -> {
            noFault("d;", 1);
            fault("d0;", 0, 1, 1);
            Check.is("one day", 1, () -> played("d;").days());
            Made late = () -> written(Made.late(998), "d;");
            Check.is("the 999th day", 999, () -> with(late.make(), VernierDrawers::play).days());
            Made later = () -> written(Made.late(998), "d;d;");
            Check.is("the 1000th day", 2, () -> later.make().faultPosition());
            Check.is("the 1000th day, the cause", 2, () -> later.make().faultCause());
            Refused.state("the 1000th day, played", later, VernierDrawers::play);
        });
    }

    private static void numbersOfTexts() {
        Sentences.term("numbers of 1 to 5 digits, 0 ahead allowed.", () -> {
            noFault("m0,9;", 1);
            noFault("m00000,00009;", 1);
            noFault("m0,02500;", 1);
            noFault("p0,0;j00000;", 2);
            noFault("p00000,00050;j0;f00001;", 3);
            fault("m000000,9;", 0, 1, 6);
            fault("m0,000009;", 0, 1, 8);
            fault("j000000;", 0, 1, 6);
            fault("f000001;", 0, 1, 6);
            fault("j99999;", 0, 2, 1);
            fault("m0,99999;", 0, 2, 1);
            fault("m99999,0;", 0, 2, 1);
            fault("m0,02501;", 0, 2, 2);
            fault("m10,0;", 0, 2, 1);
            fault("j;", 0, 1, 1);
            fault("m,9;", 0, 1, 1);
            fault("m0,;", 0, 1, 3);
            fault("j/;", 0, 1, 1);
            fault("j:;", 0, 1, 1);
            fault("j0a;", 0, 1, 2);
            fault("j+0;", 0, 1, 1);
            Check.is("9 is the greatest digit", 99, () -> played("p0,99;j0;").chartedAt(0, 0));
            Check.is("tens count", 123, () -> played("p0,00123;j0;").chartedAt(0, 0));
        });
    }

    private static void faults() {
        Sentences.term("The fault of the text is the position, from 0, of the first character of the first order that is not"
                + " possible;", () -> {
            fault("x", 0, 1, 0);
            fault("d;x", 2, 1, 0);
            fault("d;d;m0,9;x;", 9, 1, 0);
            fault("x;y;", 0, 1, 0);
            fault("d;j0;x", 2, 2, 2);
            fault("d;x;j0;", 2, 1, 0);
            fault("d;m0,", 2, 1, 3);
            fault("d;".repeat(29) + "d", 58, 1, 1);
            fault("d;".repeat(29) + "u;", 58, 2, 2);
            fault("d;".repeat(29) + ";d", 58, 1, 0);
            noFault("d;".repeat(30), 30);
        });
        Sentences.term("its reason is 1 if it is not of this form, its \";\" included, and otherwise 2, when those ahead of it"
                + " are done;", () -> {
            fault("j0", 0, 1, 2);
            fault("j0;", 0, 2, 2);
            fault("j9", 0, 1, 2);
            fault("j9;", 0, 2, 1);
            noFault("p0,0;j0;", 2);
            fault("p0,0;j0;j0;", 8, 2, 2);
            fault("p0,50;j0;f5;j0;f99;f9;", 19, 2, 2);
            noFault("d;".repeat(9) + "p0,0;j0;", 11);
            fault("d;".repeat(10) + "p0,0;j0;", 25, 2, 2);
            noFault("d;".repeat(10) + "c0,100;p0,0;j0;", 13);
            Check.is("those ahead of it stay undone", 0, () -> with(Made.text("d;p0,0;x"), VernierDrawers::faultCause).days());
            Check.is("of the state of now", 1, () -> with(Made.text("j0;"), x -> x.bring(0, 50)).play());
        });
    }

    private static void breaksOff() {
        Sentences.term("its cause is with the reason 1 at which character of the order, from 0, it breaks off (of one that the"
                + " text ends too early it is its length),", () -> {
            String order = "m00000,00009";
            for (int length = 1; length <= order.length(); length++) {
                fault(order.substring(0, length), 0, 1, length);
                fault("d;" + order.substring(0, length), 2, 1, length);
                fault(order.substring(0, length) + "x;", 0, 1, length);
            }
            noFault(order + ";", 1);
            fault("x", 0, 1, 0);
            fault("~;", 0, 1, 0);
            fault("D;", 0, 1, 0);
            fault("0;", 0, 1, 0);
            fault("d;u,", 2, 1, 1);
            fault("f12345", 0, 1, 6);
            fault("f123456", 0, 1, 6);
        });
    }

    private static void causes() {
        Sentences.term("and with the reason 2 which exception the call throws for it: 1 IllegalArgumentException, 2"
                + " IllegalStateException.", () -> {
            fault("m1,0;", 0, 2, 1);
            fault("m0,2501;", 0, 2, 2);
            fault("c1,100;", 0, 2, 1);
            fault("c0,7;", 0, 2, 2);
            fault("p1,0;", 0, 2, 1);
            fault("j1;", 0, 2, 1);
            fault("j0;", 0, 2, 2);
            fault("f0;", 0, 2, 1);
            fault("f1;", 0, 2, 2);
            fault("u;", 0, 2, 2);
            Made full = () -> {
                VernierDrawers x = Made.full();
                return written(x, "p0,0;");
            };
            Check.is("20 on the bench", 2, () -> full.make().faultCause());
            Check.is("20 on the bench, and the deviation", 1, () -> written(full.make(), "p0,201;").faultCause());
            Check.is("20 on the bench, to be filed", 2, () -> written(full.make(), "f1;").faultCause());
            Check.is("20 on the bench, and the amount", 1, () -> written(full.make(), "f100;").faultCause());
            Check.is("999 days", 2, () -> written(Made.late(999), "d;").faultCause());
        });
    }

    private static void textStays() {
        Sentences.term("The text stays, whether it has a fault or not.", () -> {
            Check.is("played", 4, () -> played("d;d;").clearText());
            Check.is("played twice", 4, () -> with(played("d;d;"), VernierDrawers::play).days());
            VernierDrawers x = Made.text("d;x");
            Check.refuses("not played", Check.STATE, x::play);
            Check.is("the fault", 2, x::faultPosition);
            Check.is("with a fault", 3, x::clearText);
            VernierDrawers y = Made.text("d;");
            Check.refuses("no fault", Check.ELEMENT, y::faultCause);
            Check.is("without a fault", 1, y::play);
        });
    }

    // ---- the terms of changes

    /** All changes, each on an object where it is possible. */
    private interface EachChange {
        void of(String name, Made made, Refused.OnOne change);
    }

    private static void eachChange(EachChange each) {
        each.of("addTool", Made::busy, x -> x.addTool(2, 1));
        each.of("addBlock", Made::busy, x -> x.addBlock(7, 1));
        each.of("addType", Made::busy, x -> x.addType(100, -1, 1, 0));
        each.of("setWarmth", Made::busy, x -> x.setWarmth(-10));
        each.of("setWarmth, the same", Made::busy, x -> x.setWarmth(30));
        each.of("setTolerance", Made::busy, x -> x.setTolerance(3));
        each.of("setTolerance, the same", Made::busy, x -> x.setTolerance(7));
        each.of("measure", Made::busy, x -> x.measure(0, 0, 100));
        each.of("calibrate", Made::busy, x -> x.calibrate(0, 700));
        each.of("bring", Made::busy, x -> x.bring(0, 5));
        each.of("judge", Made::busy, x -> x.judge(0));
        each.of("judge, doubted", () -> with(Made.type(-20, 20), x -> x.bring(0, 20)), x -> x.judge(0));
        each.of("judge, to strictly", () -> with(Made.judged(-20, 20, 50), x -> x.bring(0, 50)), x -> x.judge(0));
        each.of("judge, from loosely", () -> with(with(Made.passed(), x -> x.bring(0, 50)), x -> x.judge(0)),
                x -> x.judge(0));
        each.of("file", Made::busy, x -> x.file(5));
        each.of("passUnseen", () -> with(Made.judged(-20, 20, new int[10]), x -> x.bring(0, 0)),
                VernierDrawers::passUnseen);
        each.of("throwOut", Made::busy, x -> x.throwOut(0));
        each.of("throwOut of none", Made::busy, x -> x.throwOut(1));
        each.of("endDay", Made::busy, VernierDrawers::endDay);
        each.of("goBack", Made::busy, VernierDrawers::goBack);
        each.of("play", () -> Made.text("d;p0,50;j0;f5;m0,9;c0,100;"), VernierDrawers::play);
        each.of("play of none", Made::empty, VernierDrawers::play);
    }

    private static VernierDrawers withoutHistory(VernierDrawers x) {
        while (x.states() > 0) {
            x.undo();
        }
        return x;
    }

    private static void changes() {
        Sentences.term("The changes are the calls of addTool, addBlock, addType, setWarmth, setTolerance, measure, calibrate,"
                + " bring, judge, file, passUnseen, throwOut, endDay, goBack and play that throw nothing.", () -> {
            eachChange((name, made, change) -> {
                VernierDrawers x = made.make();
                int before = x.states();
                change.of(x);
                Check.is(name + " is a change", Math.min(4, before + 1), x::states);
            });
            VernierDrawers x = Made.blocks(100);
            x.addType(1000, -20, 20, 0);
            withoutHistory(x);
            Check.is("undone", 0, x::states);
            x.addTool(4, 0);
            x.keep();
            x.type('d');
            x.clearText();
            x.readingFor(0, 0, 100);
            x.isDue(0);
            x.stackable();
            Check.refuses("refused", Check.ARGUMENT, () -> x.addTool(5, 0));
            Check.refuses("refused", Check.STATE, () -> x.judge(0));
            Check.is("these are no changes", 1, x::states);
        });
    }

    private static void history() {
        Sentences.term("A history of at most 4 states is kept: each change records everything before it but the text and the"
                + " snapshot, and if there are 5 states then, the oldest one is dropped.", () -> {
            VernierDrawers x = Made.empty();
            for (int i = 1; i <= 6; i++) {
                x.setWarmth(i);
                Check.is("behind " + i + " changes", Math.min(4, i), x::states);
            }
            for (int i = 3; i >= 0; i--) {
                Check.is("states left", i, x::undo);
                Check.is("the warmth, " + i + " left", i + 2, x::warmth);
            }
            Check.refuses("the oldest ones are dropped", Check.STATE, x::undo);
            eachChange((name, made, change) -> {
                Check.same(name + ", undone", Seen.things(made.make()), Seen.things(undone(made, change)));
                Check.same(name + ", undone, what is hidden", Seen.hidden(made.make()), Seen.hidden(undone(made, change)));
            });
            VernierDrawers y = Made.text("d;");
            y.keep();
            y.setWarmth(0);
            y.type('d');
            y.keep();
            y.setWarmth(1);
            y.undo();
            y.undo();
            Check.is("the text is not restored", 3, y::clearText);
            y.goBack();
            Check.is("the snapshot is not restored", 0, y::warmth);
        });
    }

    private static VernierDrawers undone(Made made, Refused.OnOne change) {
        return with(with(made.make(), change), VernierDrawers::undo);
    }

    private static void firstException() {
        Sentences.term("If several exceptions apply to a call, the one that its throws clause names first is thrown.", () -> {
            Refused.argument("addTool", Made::full, x -> x.addTool(5, 0));
            Refused.argument("addBlock", Made::full, x -> x.addBlock(0, 0));
            Refused.argument("measure", () -> Made.tool(4, -30), x -> x.measure(0, 0, -1));
            Refused.argument("measure, far", () -> Made.tool(4, 0), x -> x.measure(0, 3, 15001));
            Refused.argument("calibrate", () -> Made.tool(4, 0), x -> x.calibrate(0, 0));
            Refused.argument("calibrate, no tool", Made::empty, x -> x.calibrate(0, 1));
            Refused.argument("addType", Made::full, x -> x.addType(100, 0, 0, 3));
            Refused.argument("bring", Made::full, x -> x.bring(0, 201));
            Refused.argument("judge", Made::empty, x -> x.judge(0));
            Refused.argument("file", Made::empty, x -> x.file(100));
            Refused.argument("type", Made::full, x -> x.type(127));
            Refused.argument("readingFor", () -> Made.tool(4, 0), x -> x.readingFor(0, 0, 15001));
            Refused.argument("readingByLooking", () -> Made.tool(4, 0), x -> x.readingByLooking(0, 3, 15000));
            Refused.argument("markFor", () -> Made.tool(4, -30), x -> x.markFor(0, 0, -1));
            Refused.argument("lineFor", () -> Made.tool(4, -30), x -> x.lineFor(0, -1, 0));
            Refused.argument("offBy", () -> Made.tool(4, -30), x -> x.offBy(1, 0, 0));
            Refused.argument("fewestBlocks", Made::empty, x -> x.fewestBlocks(0));
            Refused.argument("fewestByTrying", Made::empty, x -> x.fewestByTrying(15001));
            Refused.argument("stackFor", Made::empty, x -> x.stackFor(0));
            Refused.argument("trueLength", Made::empty, x -> x.trueLength(15001));
            Refused.argument("typeAt", Made::empty, x -> x.typeAt(-1));
            Refused.argument("wasDoubted", Made::empty, x -> Check.of(x.wasDoubted(-1)));
            Refused.argument("wouldJudge", Made::empty, x -> x.wouldJudge(0));
            Refused.argument("goodUntilChange", Made::passed, x -> x.goodUntilChange(1));
            Refused.argument("chartedAt", Made::full, x -> x.chartedAt(4, -1));
            Refused.argument("middleOf", Made::empty, x -> x.middleOf(0));
            Refused.argument("middleByTaking", Made::empty, x -> x.middleByTaking(0));
            Refused.argument("spreadOf", Made::empty, x -> x.spreadOf(0));
            Refused.argument("meanOf", Made::empty, x -> x.meanOf(0));
        });
    }

    private static void changesNothing() {
        Sentences.term("A call that throws an exception changes nothing.", () -> {
            Refused.argument("addTool", Made::busy, x -> x.addTool(0, 31));
            Refused.state("addTool", Made::full, x -> x.addTool(0, 0));
            Refused.argument("addBlock", Made::busy, x -> x.addBlock(1, 4));
            Refused.state("addBlock", Made::full, x -> x.addBlock(1, 0));
            Refused.argument("setWarmth", Made::busy, x -> x.setWarmth(51));
            Refused.argument("measure", Made::busy, x -> x.measure(0, 0, 15001));
            Refused.state("measure", Made::busy, x -> x.measure(0, 0, 2498));
            Refused.argument("calibrate", Made::busy, x -> x.calibrate(0, 0));
            Refused.state("calibrate", Made::busy, x -> x.calibrate(0, 701));
            Refused.state("calibrate, above the greatest mark", () -> with(Made.busy(), x -> x.addBlock(2498, 0)),
                    x -> x.calibrate(0, 2498));
            Refused.state("endDay", () -> Made.late(999), VernierDrawers::endDay);
            Refused.argument("addType", Made::busy, x -> x.addType(100, 1, 1, 0));
            Refused.state("addType", Made::full, x -> x.addType(100, 0, 0, 0));
            Refused.argument("bring", Made::busy, x -> x.bring(1, -150));
            Refused.state("bring", Made::full, x -> x.bring(0, 0));
            Refused.argument("judge", Made::busy, x -> x.judge(2));
            Refused.state("judge", Made::busy, x -> x.judge(1));
            Refused.argument("file", Made::busy, x -> x.file(0));
            Refused.state("file", Made::full, x -> x.file(1));
            Refused.state("passUnseen", Made::passed, VernierDrawers::passUnseen);
            Refused.argument("throwOut", Made::busy, x -> x.throwOut(2));
            Refused.argument("setTolerance", Made::busy, x -> x.setTolerance(100));
            Refused.state("goBack", Made::full, VernierDrawers::goBack);
            Refused.state("undo", () -> withoutHistory(Made.busy()), VernierDrawers::undo);
            Refused.argument("type", Made::busy, x -> x.type(127));
            Refused.state("type", Made::full, x -> x.type('d'));
            Refused.state("play", Made::busy, VernierDrawers::play);
            Refused.state("play, behind ten orders", () -> written(Made.busy(), "d;d;d;d;d;d;m0,9;c0,700;f1;f1;f1;"),
                    VernierDrawers::play);
        });
    }

    // ---- promise 1

    private static void newObject() {
        Sentences.of(1, "Begins with an empty drawer and bench, on the day 0, with the tolerance 10, without a snapshot.",
            () -> {
                VernierDrawers x = Made.empty();
                int[] none = {x.tools(), x.blocks(), x.stackable(), x.types(), x.onBench(), x.toFile(), x.days(),
                    x.brought(), x.broughtByPlaces(), x.good(), x.thrownAway(), x.unseen(), x.doubts(), x.states(),
                    x.clearText()};
                for (int i = 0; i < none.length; i++) {
                    int look = i;
                    Check.is("look " + i, 0, () -> none[look]);
                }
                Refused.state("no snapshot", Made::empty, VernierDrawers::goBack);
                Refused.state("no history", Made::empty, VernierDrawers::undo);
                Check.is("the tolerance", 10, () -> x.setTolerance(0));
                Check.is("another object", 10, () -> Made.empty().setTolerance(0));
            });
    }

    // ---- promises 68 to 71

    private static void keepAndGoBack() {
        Sentences.of(68, "Takes a snapshot, in place of the one before: of everything but the text, the history and itself.",
            () -> {
                eachChange((name, made, change) -> {
                    Check.same("back from " + name, Seen.things(kept(made)), Seen.things(back(made, change)));
                    Check.same("back from " + name + ", what is hidden", Seen.hidden(kept(made)),
                            Seen.hidden(back(made, change)));
                });
                VernierDrawers x = Made.text("d;");
                x.keep();
                x.type('x');
                x.goBack();
                Check.is("not the text", 3, x::clearText);
                Check.is("not the history", 4, x::states);
                x.undo();
                Check.is("undone", 3, x::states);
                x.setWarmth(1);
                x.keep();
                x.setWarmth(2);
                x.goBack();
                Check.is("in place of the one before", 1, x::warmth);
                VernierDrawers y = Made.empty();
                y.keep();
                Check.is("is no change", 0, y::states);
            });
        Sentences.of(68, "Returns how many pieces are on the bench.", () -> {
            Check.is("none", 0, () -> Made.empty().keep());
            Check.is("three", 3, () -> Made.busy().keep());
            Check.is("twenty", 20, () -> Made.full().keep());
        });
        Sentences.of(69, "Goes back to the snapshot, which stays.", () -> {
            VernierDrawers x = Made.busy();
            for (int i = 0; i < 3; i++) {
                x.goBack();
                Check.is("the bench", 2, x::onBench);
                Check.is("the warmth", 20, x::warmth);
                x.bring(0, 0);
                x.setWarmth(40);
                x.undo();
            }
            Check.same("the snapshot of busy", Seen.things(with(Made.busy(), VernierDrawers::goBack)),
                    Seen.things(with(x, VernierDrawers::goBack)));
        });
        Sentences.of(69, "Returns how many pieces are on the bench then.", () -> {
            Check.is("two", 2, () -> Made.busy().goBack());
            VernierDrawers x = Made.empty();
            x.keep();
            x.addType(1000, -9, 9, 0);
            x.bring(0, 0);
            Check.is("none", 0, x::goBack);
            VernierDrawers y = Made.full();
            y.keep();
            y.throwOut(0);
            y.judge(5);
            Check.is("twenty", 20, y::goBack);
        });
        Sentences.of(69, "Throws `IllegalStateException` if there is none", () -> {
            Refused.state("a new object", Made::empty, VernierDrawers::goBack);
            Refused.state("a full one", Made::full, VernierDrawers::goBack);
            Check.is("kept at once", 0, () -> with(Made.empty(), VernierDrawers::keep).goBack());
        });
    }

    private static VernierDrawers kept(Made made) {
        return with(made.make(), VernierDrawers::keep);
    }

    private static VernierDrawers back(Made made, Refused.OnOne change) {
        VernierDrawers x = kept(made);
        if (change.of(x) < 0) {
            Check.tell("a change of which the test does not know");
        }
        x.setWarmth(-5);
        x.endDay();
        x.addTool(0, 0);
        x.goBack();
        return x;
    }

    private static void undo() {
        Sentences.of(70, "Returns how many states the history has.", () -> {
            Check.is("none", 0, () -> Made.empty().states());
            Check.is("one", 1, () -> Made.tool(0, 0).states());
        });
        Sentences.of(70, "Returns how many, 0 to 4.", () -> {
            VernierDrawers x = Made.empty();
            for (int i = 1; i <= 5; i++) {
                x.setWarmth(i);
                Check.is("behind " + i, Math.min(4, i), x::states);
            }
        });
        Sentences.of(71, "Restores the latest state of the history, which is removed from it.", () -> {
            VernierDrawers x = Made.empty();
            x.setWarmth(1);
            x.setWarmth(2);
            x.undo();
            Check.is("the latest one", 1, x::warmth);
            Check.is("is removed", 1, x::states);
            x.setWarmth(3);
            x.undo();
            x.undo();
            Check.is("the first one", 20, x::warmth);
            Check.is("all are removed", 0, x::states);
            x.setWarmth(4);
            x.undo();
            Check.is("once more", 20, x::warmth);
        });
        Sentences.of(71, "Returns the number of states that are left.", () -> {
            VernierDrawers x = Made.full();
            for (int left = 3; left >= 0; left--) {
                Check.is("left", left, x::undo);
            }
        });
        Sentences.of(71, "Throws `IllegalStateException` if the history is empty", () -> {
            Refused.state("a new object", Made::empty, VernierDrawers::undo);
            Refused.state("all undone", () -> withoutHistory(Made.full()), VernierDrawers::undo);
            Refused.state("a snapshot alone", () -> kept(Made::empty), VernierDrawers::undo);
            Refused.state("a text alone", () -> written(Made.empty(), "d;"), VernierDrawers::undo);
        });
    }

    // ---- promises 72 to 77

    private static void type() {
        Sentences.of(72, "Appends a character to the text.", () -> {
            VernierDrawers x = Made.empty();
            x.type('d');
            Check.is("d", 1, x::faultCause);
            x.type(';');
            Check.is("d;", 1, x::play);
        });
        Sentences.of(72, "- `character`: 32 to 126", () -> {
            VernierDrawers x = Made.empty();
            Check.is("32", 1, () -> x.type(32));
            Check.is("126", 2, () -> x.type(126));
            Refused.numbers("character", Made::busy, VernierDrawers::type, 31, 127, 0, -1, 'd' + 65536, 'd' + 256);
        });
        Sentences.of(72, "Returns the length of the text.", () -> {
            VernierDrawers x = Made.empty();
            for (int i = 1; i <= 60; i++) {
                Check.is("character " + i, i, () -> x.type('x'));
            }
        });
        Sentences.of(72, "Throws `IllegalArgumentException` if character is out of range", () -> {
            Refused.argument("31", Made::empty, x -> x.type(31));
            Refused.argument("127", Made::empty, x -> x.type(127));
            Refused.argument("31, though the text has 60", Made::full, x -> x.type(31));
        });
        Sentences.of(72, "Throws `IllegalStateException` if the text has 60 characters", () -> {
            Refused.state("60", Made::full, x -> x.type('d'));
            VernierDrawers x = written(Made.empty(), "d".repeat(59));
            Check.is("59", 60, () -> x.type('d'));
        });
        Sentences.of(73, "Empties the text.", () -> {
            VernierDrawers x = Made.text("x;d;");
            x.clearText();
            Check.is("empty", 0, x::play);
            Check.type(x, "d;");
            Check.is("nothing is left of it", 1, x::play);
        });
        Sentences.of(73, "Returns the length that it had.", () -> {
            Check.is("0", 0, () -> Made.empty().clearText());
            Check.is("6", 6, () -> Made.busy().clearText());
            VernierDrawers x = Made.full();
            Check.is("60", 60, x::clearText);
            Check.is("then 0", 0, x::clearText);
        });
    }

    private static void faultCalls() {
        Sentences.of(74, "Tells the position of the fault of the text.",
            () -> Check.is("behind an order", 5, () -> Made.busy().faultPosition()));
        Sentences.of(74, "Returns the position.", () -> {
            Check.is("0", 0, () -> Made.full().faultPosition());
            Check.is("59", 58, () -> Made.text("d;".repeat(29) + "x").faultPosition());
            Check.is("the last character", 59, () -> Made.text("m0,9;" + "d;".repeat(27) + "x").faultPosition());
        });
        Sentences.of(74, "Throws `NoSuchElementException` if the text has no fault (also if it is empty)",
            () -> noFaultOf(VernierDrawers::faultPosition));
        Sentences.of(75, "Tells the reason of the fault of the text.",
            () -> Check.is("not of the form", 1, () -> Made.busy().faultReason()));
        Sentences.of(75, "Returns 1 or 2.", () -> {
            Check.is("1", 1, () -> Made.text("j0").faultReason());
            Check.is("2", 2, () -> Made.text("j0;").faultReason());
        });
        Sentences.of(75, "Throws `NoSuchElementException` if the text has no fault",
            () -> noFaultOf(VernierDrawers::faultReason));
        Sentences.of(76, "Tells the cause of the fault of the text.",
            () -> Check.is("at its first character", 0, () -> Made.busy().faultCause()));
        Sentences.of(76, "Returns the cause, as told.", () -> {
            Check.is("where it breaks off", 12, () -> Made.text("m00000,000090;").faultCause());
            Check.is("its length", 12, () -> Made.text("m00000,00009").faultCause());
            Check.is("an argument", 1, () -> Made.text("j1;").faultCause());
            Check.is("a state", 2, () -> Made.text("j0;").faultCause());
        });
        Sentences.of(76, "Throws `NoSuchElementException` if the text has no fault",
            () -> noFaultOf(VernierDrawers::faultCause));
    }

    private static void noFaultOf(Refused.OnOne look) {
        Refused.element("empty", Made::empty, look);
        Refused.element("an empty text", () -> Made.text(""), look);
        Refused.element("cleared", () -> with(Made.busy(), VernierDrawers::clearText), look);
        Refused.element("one order", () -> Made.text("d;"), look);
        Refused.element("60 characters", () -> Made.text("d;".repeat(30)), look);
    }

    private static void play() {
        Sentences.of(77, "Does all orders of the text, which stays.", () -> {
            VernierDrawers x = played("p0,5;p0,50;d;j0;j0;f9;m0,9;c0,100;");
            Check.is("a day", 1, x::days);
            Check.is("good", 1, x::good);
            Check.is("filed", 1, x::onBench);
            Check.is("uses", 4, () -> x.usesOf(0));
            Check.is("stays", 34, x::clearText);
        });
        Sentences.of(77, "They are one change, also if there are none.", () -> {
            VernierDrawers x = withoutHistory(Made.empty());
            Check.write(x, "d;d;d;d;d;d;");
            x.play();
            Check.is("six orders", 1, x::states);
            x.undo();
            Check.is("all are undone", 0, x::days);
            x.clearText();
            x.play();
            Check.is("none", 1, x::states);
            Check.is("undone", 0, x::undo);
        });
        Sentences.of(77, "Returns how many there are in it.", () -> {
            Check.is("none", 0, () -> Made.empty().play());
            Check.is("one", 1, () -> Made.text("d;").play());
            Check.is("thirty", 30, () -> Made.text("d;".repeat(30)).play());
        });
        Sentences.of(77, "Throws `IllegalStateException` if the text has a fault", () -> {
            Refused.state("at once", Made::busy, VernierDrawers::play);
            Refused.state("not of the form", () -> Made.text("d;d;d"), VernierDrawers::play);
            Refused.state("not possible", () -> Made.text("p0,0;d;j0;j0;"), VernierDrawers::play);
            Refused.state("60 characters", Made::full, VernierDrawers::play);
        });
    }
}
