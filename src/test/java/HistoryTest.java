/** Promises 1 and 60 to 77: a new object, the snapshot, the history, texts. */
public final class HistoryTest {
    public static void main(String[] args) {
        newObject();
        keepAndGoBack();
        keepAndHistory();
        states();
        whatIsChange();
        undoRestoresAll();
        type();
        clearText();
        textOutsideOfStates();
        forms();
        formsOfNumbers();
        formsThatEnd();
        causes();
        causeOfEndDay();
        orderByOrder();
        positions();
        play();
        playOrders();
        playRefused();
        twoObjects();
        roomsUsedAgain();
        nothingIsForgotten();
        Check.end();
    }

    private static void newObject() {
        VernierDrawers x = new VernierDrawers();
        Check.is("1: no tools", 0, x::tools);
        Check.is("1: no blocks", 0, x::blocks);
        Check.is("1: no types", 0, x::types);
        Check.is("1: an empty bench", 0, x::onBench);
        Check.is("1: none to be filed", 0, x::toFile);
        Check.is("1: the day 0", 0, x::days);
        Check.is("1: the warmth 20", 20, x::warmth);
        Check.is("1: none brought", 0, x::brought);
        Check.is("1: no history", 0, x::states);
        Check.is("1: no text", 0, x::clearText);
        Check.refuses("1: no snapshot", Check.STATE, x::goBack);
        Check.refuses("1: nothing to undo", Check.STATE, x::undo);
        Check.is("1: the tolerance 10", 10, () -> x.setTolerance(10));
    }

    private static void keepAndGoBack() {
        VernierDrawers x = new VernierDrawers();
        Check.is("68: an empty bench", 0, x::keep);
        x.addTool(4, 3);
        x.addType(1000, -9, 9, 0);
        x.bring(0, 1);
        x.bring(0, 2);
        Check.is("69: back to the empty bench", 0, x::goBack);
        Check.is("69: without tools", 0, x::tools);
        Check.is("69: without types", 0, x::types);
        Check.is("71: it can be undone", 3, x::undo);
        Check.is("71: with its pieces", 2, x::onBench);
        Check.is("68: in place of the one before", 2, x::keep);
        x.judge(0);
        x.setWarmth(0);
        x.setTolerance(3);
        x.endDay();
        x.addBlock(7, 0);
        Check.is("69: two pieces again", 2, x::goBack);
        Check.is("69: not used", 0, () -> x.usesOf(0));
        Check.is("69: not warmed", 20, x::warmth);
        Check.is("69: not a day later", 0, x::days);
        Check.is("69: no block", 0, x::blocks);
        Check.is("69: not judged", 0, x::good);
        Check.is("69: the tolerance", 10, () -> x.setTolerance(10));
        x.judge(0);
        Check.is("69: the snapshot stays", 2, x::goBack);
        Check.is("69: and stays", 2, x::goBack);
    }

    private static void keepAndHistory() {
        VernierDrawers x = new VernierDrawers();
        x.setWarmth(1);
        x.keep();
        Check.is("68: keeping is no change", 1, x::states);
        x.setWarmth(2);
        x.undo();
        x.undo();
        Check.is("68: the history is not kept", 0, x::states);
        Check.is("71: undoing keeps the snapshot", 0, x::goBack);
        Check.is("69: its warmth", 1, x::warmth);
        Check.is("69: is a change", 1, x::states);
        x.undo();
        Check.is("69: undone", 20, x::warmth);
        x.keep();
        x.setWarmth(3);
        x.undo();
        x.goBack();
        Check.is("68: the latest snapshot", 20, x::warmth);
    }

    private static void states() {
        VernierDrawers x = new VernierDrawers();
        for (int i = 1; i <= 6; i++) {
            x.setWarmth(i);
            Check.is("70: after " + i, Math.min(4, i), x::states);
        }
        for (int i = 3; i >= 0; i--) {
            Check.is("71: left", i, x::undo);
            Check.is("70: left", i, x::states);
            Check.is("71: the warmth", 2 + i, x::warmth);
        }
        Check.refuses("71: empty", Check.STATE, x::undo);
        Check.is("71: refused, it stays", 2, x::warmth);
        x.setWarmth(7);
        x.setWarmth(8);
        Check.is("71: changed again", 1, x::undo);
        Check.is("71: the warmth", 7, x::warmth);
        x.setWarmth(9);
        Check.is("71: undone again", 1, x::undo);
        Check.is("71: the warmth", 7, x::warmth);
        Check.is("71: and again", 0, x::undo);
        Check.is("71: the warmth", 2, x::warmth);
    }

    /** Checks that the history has one more state than before, up to 4. */
    private static void changes(VernierDrawers x, String what, Check.Call call) {
        while (x.states() > 0) {
            x.undo();
        }
        call.run();
        Check.is("70: a change: " + what, 1, x::states);
    }

    private static VernierDrawers readyForAll() {
        VernierDrawers x = new VernierDrawers();
        x.addTool(4, 0);
        x.addBlock(100, 0);
        x.addType(1000, -20, 20, 2);
        for (int i = 0; i < 10; i++) {
            x.bring(0, 0);
            x.judge(0);
        }
        x.bring(0, 50);
        x.keep();
        for (int i = 0; i < 5; i++) {
            x.endDay();
        }
        return x;
    }

    private static void whatIsChange() {
        VernierDrawers x = readyForAll();
        changes(x, "addTool", () -> x.addTool(0, 0));
        changes(x, "addBlock", () -> x.addBlock(1, 0));
        changes(x, "setWarmth", () -> x.setWarmth(20));
        changes(x, "measure", () -> x.measure(0, 0, 100));
        changes(x, "calibrate", () -> x.calibrate(0, 100));
        changes(x, "endDay", x::endDay);
        changes(x, "addType", () -> x.addType(100, 0, 0, 0));
        changes(x, "bring", () -> x.bring(0, 0));
        changes(x, "judge", () -> x.judge(0));
        changes(x, "throwOut", () -> x.throwOut(0));
        changes(x, "setTolerance", () -> x.setTolerance(10));
        changes(x, "goBack", x::goBack);
        changes(x, "passUnseen", x::passUnseen);
        changes(x, "play", x::play);
        x.undo();
        x.judge(0);
        x.file(1);
        Check.is("70: a change: file", 2, x::states);

        x.keep();
        x.type('x');
        x.faultPosition();
        x.clearText();
        x.middleOf(0);
        x.stackFor(100);
        x.goodShare();
        Check.is("70: these are no changes", 2, x::states);
        Check.refuses("6: a refused call", Check.STATE, () -> x.calibrate(0, 1));
        Check.refuses("4: a refused call", Check.ARGUMENT, () -> x.setWarmth(51));
        Check.is("70: refused calls are no changes", 2, x::states);
    }

    private static void undoRestoresAll() {
        VernierDrawers x = new VernierDrawers();
        x.addTool(4, 0);
        x.addBlock(100, 0);
        x.addType(1000, -20, 20, 0);
        x.bring(0, 20);
        x.judge(0);
        Check.is("71: before judging", 3, x::undo);
        Check.is("71: not doubted", 0, () -> Check.of(x.wasDoubted(0)));
        Check.is("71: no doubts", 0, x::doubts);
        Check.is("71: not used", 0, () -> x.usesOf(0));
        x.judge(0);
        x.judge(0);
        Check.is("71: before the result", 3, x::undo);
        Check.is("71: one doubt", 1, x::doubts);
        Check.is("71: not good", 0, x::good);
        Check.refuses("71: no results", Check.ELEMENT, x::goodShare);
        Check.is("71: no record", 0, () -> x.recordOf(0));
        Check.is("71: no chart", 0, () -> x.charted(0));
        x.setTolerance(20);
        Check.is("71: before the tolerance", 3, x::undo);
        Check.is("71: the tolerance", 10, () -> x.setTolerance(10));
        for (int i = 0; i < 6; i++) {
            x.measure(0, 0, 100);
        }
        Check.is("19: worn", 1, () -> x.wearOf(0));
        x.undo();
        Check.is("71: not worn", 0, () -> x.wearOf(0));
        x.measure(0, 0, 100);
        Check.is("71: worn again", 1, () -> x.wearOf(0));
        for (int i = 0; i < 10; i++) {
            x.calibrate(0, 100);
        }
        Check.is("32: used 10 times", -1, () -> x.blockError(0));
        x.undo();
        Check.is("71: used 9 times", 0, () -> x.blockError(0));
        x.calibrate(0, 100);
        Check.is("71: used 10 times again", -1, () -> x.blockError(0));
    }

    private static void type() {
        VernierDrawers x = new VernierDrawers();
        Check.refuses("72: 31", Check.ARGUMENT, () -> x.type(31));
        Check.refuses("72: 127", Check.ARGUMENT, () -> x.type(127));
        Check.refuses("72: 0", Check.ARGUMENT, () -> x.type(0));
        Check.refuses("72: a letter and 65536", Check.ARGUMENT, () -> x.type('d' + 65536));
        Check.refuses("72: far below", Check.ARGUMENT, () -> x.type(Integer.MIN_VALUE));
        Check.refuses("72: far above", Check.ARGUMENT, () -> x.type(Integer.MAX_VALUE));
        Check.is("72: 32", 1, () -> x.type(32));
        Check.is("72: 126", 2, () -> x.type(126));
        for (int i = 3; i <= 60; i++) {
            Check.is("72: character " + i, i, () -> x.type('d'));
        }
        Check.refuses("72: character 61", Check.STATE, () -> x.type('d'));
        Check.refuses("72: a wrong character 61", Check.ARGUMENT, () -> x.type(127));
        Check.is("73: all 60", 60, x::clearText);
        Check.is("72: the first one again", 1, () -> x.type('d'));
    }

    private static void clearText() {
        VernierDrawers x = new VernierDrawers();
        Check.is("73: empty", 0, x::clearText);
        Check.type(x, "xyz");
        Check.is("74: a fault", 0, x::faultPosition);
        Check.is("73: three", 3, x::clearText);
        Check.is("73: none then", 0, x::clearText);
        Check.refuses("74: none then", Check.ELEMENT, x::faultPosition);
        Check.type(x, "d;");
        Check.is("73: nothing is left of the text before", 1, x::play);
    }

    private static void textOutsideOfStates() {
        VernierDrawers x = new VernierDrawers();
        Check.type(x, "d;");
        x.setWarmth(1);
        x.keep();
        Check.type(x, "d");
        x.undo();
        Check.is("71: the text stays", 4, () -> x.type(';'));
        x.goBack();
        Check.is("69: the text stays", 2, x::play);
        x.clearText();
        x.undo();
        Check.is("71: a text is not restored", 0, x::clearText);
        Check.is("73: typing is no change", 1, x::states);
    }

    private static void fault(Made made, String text, int position, int reason, int cause) {
        VernierDrawers x = made.make();
        // An empty text is told between them, so that each of them is told for itself.
        noFaultOf(x, "");
        Check.write(x, text);
        Check.is("74: " + text, position, x::faultPosition);
        noFaultOf(x, "");
        Check.write(x, text);
        Check.is("75: " + text, reason, x::faultReason);
        noFaultOf(x, "");
        Check.write(x, text);
        Check.is("76: " + text, cause, x::faultCause);
        Check.refuses("77: " + text, Check.STATE, x::play);
        Check.is("77: the text stays", text.length(), x::clearText);
        Check.type(x, text);
    }

    private static void noFault(Made made, String text) {
        noFaultOf(made.make(), text);
    }

    private static void noFaultOf(VernierDrawers x, String text) {
        Check.write(x, text);
        Check.refuses("74: " + text, Check.ELEMENT, x::faultPosition);
        Check.refuses("75: " + text, Check.ELEMENT, x::faultReason);
        Check.refuses("76: " + text, Check.ELEMENT, x::faultCause);
    }

    private static VernierDrawers readyForTexts() {
        VernierDrawers x = new VernierDrawers();
        x.addTool(4, 0);
        x.addBlock(100, 0);
        x.addType(1000, -20, 20, 0);
        return x;
    }

    private static void forms() {
        Made x = HistoryTest::readyForTexts;
        noFault(x, "");
        noFault(x, "m0,5;");
        noFault(x, "c0,100;");
        noFault(x, "p0,5;");
        noFault(x, "p0,5;j0;");
        noFault(x, "p0,50;j0;f5;");
        noFault(x, "d;");
        noFault(x, "d;d;m0,5;p0,0;");
        fault(x, "x;", 0, 1, 0);
        fault(x, " d;", 0, 1, 0);
        fault(x, ";", 0, 1, 0);
        fault(x, "D;", 0, 1, 0);
        fault(x, "5;", 0, 1, 0);
        fault(x, "dd;", 0, 1, 1);
        fault(x, "d ;", 0, 1, 1);
        fault(x, "d0;", 0, 1, 1);
        fault(x, "u0;", 0, 1, 1);
        fault(x, "u,;", 0, 1, 1);
        fault(x, "m;", 0, 1, 1);
        fault(x, "m,5;", 0, 1, 1);
        fault(x, "m0;", 0, 1, 2);
        fault(x, "m0,;", 0, 1, 3);
        fault(x, "m0,-5;", 0, 1, 3);
        fault(x, "m0,5,;", 0, 1, 4);
        fault(x, "m0 ,5;", 0, 1, 2);
        fault(x, "c0;", 0, 1, 2);
        fault(x, "p0;", 0, 1, 2);
        fault(x, "p0,-5;", 0, 1, 3);
        fault(x, "j;", 0, 1, 1);
        fault(x, "j0,0;", 0, 1, 2);
        fault(x, "f;", 0, 1, 1);
        fault(x, "f5,5;", 0, 1, 2);
        fault(x, "j/;", 0, 1, 1);
        fault(x, "j:;", 0, 1, 1);
    }

    private static void formsOfNumbers() {
        Made x = HistoryTest::readyForTexts;
        noFault(x, "m00000,00005;");
        noFault(x, "c00000,00100;");
        noFault(x, "p00000,00020;j00000;");
        noFault(x, "m0,02500;");
        fault(x, "m000000,5;", 0, 1, 6);
        fault(x, "m0,000005;", 0, 1, 8);
        fault(x, "j000000;", 0, 1, 6);
        fault(x, "j99999;", 0, 2, 1);
        fault(x, "f99999;", 0, 2, 1);
        fault(x, "m0,15001;", 0, 2, 1);
        fault(x, "m0,02501;", 0, 2, 2);
        fault(x, "m10,5;", 0, 2, 1);
    }

    private static void formsThatEnd() {
        Made x = HistoryTest::readyForTexts;
        String order = "m00000,00005";
        for (int length = 1; length <= order.length(); length++) {
            fault(x, order.substring(0, length), 0, 1, length);
        }
        noFault(x, order + ";");
        fault(x, "d", 0, 1, 1);
        fault(x, "u", 0, 1, 1);
        fault(x, "j", 0, 1, 1);
        fault(x, "j0", 0, 1, 2);
        fault(x, "d;d", 2, 1, 1);
        fault(x, "d;m0,", 2, 1, 3);
        fault(x, "d;m12345", 2, 1, 6);
    }

    private static void causes() {
        Made x = HistoryTest::readyForTexts;
        fault(x, "m1,5;", 0, 2, 1);
        fault(x, "m0,99999;", 0, 2, 1);
        fault(x, "m0,2501;", 0, 2, 2);
        fault(x, "c1,100;", 0, 2, 1);
        fault(x, "c0,0;", 0, 2, 1);
        fault(x, "c0,15001;", 0, 2, 1);
        fault(x, "c0,99;", 0, 2, 2);
        fault(x, "p1,0;", 0, 2, 1);
        fault(x, "p0,201;", 0, 2, 1);
        fault(x, "j1;", 0, 2, 1);
        fault(x, "j0;", 0, 2, 2);
        fault(x, "f0;", 0, 2, 1);
        fault(x, "f100;", 0, 2, 1);
        fault(x, "f1;", 0, 2, 2);
        fault(x, "u;", 0, 2, 2);
        Made full = () -> {
            VernierDrawers y = readyForTexts();
            for (int i = 0; i < 20; i++) {
                y.bring(0, 0);
            }
            return y;
        };
        fault(full, "p0,0;", 0, 2, 2);
        fault(full, "p0,201;", 0, 2, 1);
        noFault(full, "j0;p0,0;");
        fault(full, "j0;p0,0;p0,0;", 8, 2, 2);
    }

    private static void causeOfEndDay() {
        Check.is("60: 999 days", 999, () -> Made.late(999).days());
        fault(() -> Made.late(999), "d;", 0, 2, 2);
        fault(() -> Made.late(999), "d", 0, 1, 1);
    }

    private static void orderByOrder() {
        Made made = HistoryTest::readyForTexts;
        fault(made, "j0;", 0, 2, 2);
        fault(made, "p0,5;j0;j0;", 8, 2, 2);
        fault(made, "p0,50;j0;f5;j0;j0;f99;", 15, 2, 2);
        fault(made, "p0,50;j0;f5;j0;f99;f99;", 19, 2, 2);
        fault(made, "j0;x", 0, 2, 2);
        fault(made, "d;j9;x", 2, 2, 1);
        fault(made, "d;x;j9;", 2, 1, 0);
        fault(made, "d;d;d;d;d;d;d;d;d;d;p0,0;j0;", 25, 2, 2);
        noFault(made, "d;d;d;d;d;d;d;d;d;p0,0;j0;");
        noFault(made, "d;d;d;d;d;d;d;d;d;d;c0,100;p0,0;j0;");
        VernierDrawers x = readyForTexts();
        Check.write(x, "d;p0,0;j0;m0,9;x");
        Check.is("74: a fault behind orders", 15, x::faultPosition);
        Check.is("74: nothing is done by telling faults", 0, x::days);
        Check.is("74: no pieces came", 0, x::onBench);
        Check.is("74: no use", 0, () -> x.usesOf(0));
        Check.is("74: no changes", 3, x::states);
        Check.write(x, "m5,5;");
        Check.is("76: no tool 5", 1, x::faultCause);
        for (int i = 0; i < 5; i++) {
            x.addTool(0, 0);
        }
        Check.refuses("74: the state of now counts", Check.ELEMENT, x::faultPosition);
        x.undo();
        Check.is("74: undone", 0, x::faultPosition);
    }

    private static void positions() {
        Made x = HistoryTest::readyForTexts;
        StringBuilder text = new StringBuilder();
        for (int i = 0; i < 29; i++) {
            text.append("d;");
        }
        noFault(x, text + "d;");
        fault(x, text + "d", 58, 1, 1);
        fault(x, text + ";d", 58, 1, 0);
        fault(x, text + "dx", 58, 1, 1);
        fault(x, text + "u;", 58, 2, 2);
        fault(x, text + "m0", 58, 1, 2);
    }

    private static void play() {
        VernierDrawers x = readyForTexts();
        Check.is("77: an empty text", 0, x::play);
        Check.is("77: is a change", 4, x::states);
        Check.is("71: is undone", 3, x::undo);
        Check.is("71: nothing else is", 1, x::types);
        Check.write(x, "p0,5;p0,6;d;j0;m0,100;");
        Check.is("77: five orders", 5, x::play);
        Check.is("77: are one change", 4, x::states);
        Check.is("77: two came", 2, x::brought);
        Check.is("77: one is good", 1, x::good);
        Check.is("77: one is left", 1, x::onBench);
        Check.is("77: a day has ended", 1, x::days);
        Check.is("77: two uses", 2, () -> x.usesOf(0));
        Check.is("77: the text stays", 5, x::play);
        Check.is("77: twice", 2, x::days);
        x.undo();
        Check.is("77: one play is undone", 1, x::days);
        Check.is("77: one play is undone", 1, x::good);
        x.undo();
        Check.is("77: both are undone", 0, x::days);
        Check.is("77: no pieces", 0, x::brought);
        Check.is("77: no uses", 0, () -> x.usesOf(0));
        Check.is("77: the text stays", 22, x::clearText);
        Check.type(x, "d;d;d;d;d;d;d;d;d;d;d;d;d;d;d;d;d;d;d;d;d;d;d;d;d;d;d;d;d;d;");
        Check.is("77: thirty orders", 30, x::play);
        Check.is("60: thirty days", 30, x::days);
    }

    private static void playOrders() {
        VernierDrawers x = readyForTexts();
        x.addTool(4, 7);
        Check.write(x, "m1,100;");
        x.play();
        Check.is("77: m uses the tool", 1, () -> x.usesOf(1));
        Check.is("77: m uses no other", 0, () -> x.usesOf(0));
        Check.write(x, "c1,100;");
        x.play();
        Check.is("77: c calibrates", 7, () -> x.knownError(1));
        x.addType(2000, -30, 30, 2);
        Check.write(x, "p1,35;p0,16;j1;j1;f20;");
        Check.is("77: p, j and f", 5, x::play);
        Check.is("54: measured", 35, () -> x.chartedAt(1, 0));
        Check.is("54: measured", 16, () -> x.chartedAt(0, 0));
        Check.is("42: filed", 1, () -> x.typeAt(0));
        x.judge(1);
        Check.is("54: filed by 20", 15, () -> x.chartedAt(1, 1));
        x.setWarmth(50);
        for (int i = 0; i < 6; i++) {
            x.measure(0, 0, 100);
        }
        Check.write(x, "m0,2500;");
        x.play();
        Check.is("77: m is of steel, it rubs by 3", 1, () -> x.wearOf(0));

        VernierDrawers y = readyForTexts();
        Check.write(y, "p0,0;j0;p0,0;j0;p0,0;j0;p0,0;j0;p0,0;j0;");
        Check.playTimes(y, 2);
        Check.write(y, "p0,99;u;d;");
        Check.is("77: u", 3, y::play);
        Check.is("65: one", 1, y::unseen);
        Check.is("60: one day", 1, y::days);
        Check.write(y, "p0,0;u;");
        Check.is("74: u, twice", 5, y::faultPosition);
        noFaultOf(y, "p0,0;j0;p0,0;u;");
    }

    private static void playRefused() {
        VernierDrawers x = readyForTexts();
        Check.write(x, "d;p0,5;j0;j0;");
        Check.refuses("77: the last order is not possible", Check.STATE, x::play);
        Check.is("77: no day has ended", 0, x::days);
        Check.is("77: no piece came", 0, x::brought);
        Check.is("77: no use", 0, () -> x.usesOf(0));
        Check.is("77: no change", 3, x::states);
        Check.write(x, "d;d;x");
        Check.refuses("77: the last order is not of the form", Check.STATE, x::play);
        Check.is("77: no day has ended", 0, x::days);
        Check.is("73: the text stays", 5, x::clearText);
    }

    private static void twoObjects() {
        VernierDrawers x = readyForTexts();
        VernierDrawers y = new VernierDrawers();
        x.setWarmth(30);
        x.type('d');
        x.keep();
        Check.is("1: another warmth", 20, y::warmth);
        Check.is("1: another text", 0, y::clearText);
        Check.is("1: no tools", 0, y::tools);
        Check.refuses("1: another snapshot", Check.STATE, y::goBack);
        y.addBlock(7, 0);
        Check.is("37: its own blocks", 1, x::stackable);
        Check.refuses("33: its own blocks", Check.ELEMENT, () -> x.fewestBlocks(7));
        Check.is("33: the other's blocks", 1, () -> y.fewestBlocks(7));
        Check.is("33: its own blocks again", 1, () -> x.fewestBlocks(100));
    }

    /** A run of 50 steps that leaves traces everywhere. */
    private static void step(VernierDrawers x, int step) {
        switch (step) {
            case 0 -> x.addTool(4, -7);
            case 1 -> x.addTool(1, 12);
            case 2 -> x.addBlock(500, 2);
            case 3 -> x.addBlock(100, -1);
            case 4 -> x.addType(2000, -20, 30, 2);
            case 5 -> x.addType(500, -5, 5, 1);
            case 6, 18 -> x.setWarmth(step * 2);
            case 7, 19, 33 -> x.setTolerance(step);
            case 8, 20, 31 -> x.calibrate(0, 500);
            case 9, 21, 34 -> x.bring(1, 13);
            case 10, 22, 29, 35, 41 -> x.endDay();
            case 11, 23 -> x.measure(1, 2, 600);
            case 12, 24, 42 -> x.bring(0, step);
            case 13, 36, 40 -> x.calibrate(0, 600);
            case 14, 25, 37 -> x.bring(0, -step);
            case 30 -> x.throwOut(0);
            case 44 -> x.file(7);
            default -> {
                if (x.onBench() == 0) {
                    x.bring(0, step);
                }
                x.judge(0);
            }
        }
    }

    private static final int STEPS = 50;

    private static VernierDrawers run(VernierDrawers x, int steps) {
        for (int i = 0; i < steps; i++) {
            step(x, i);
        }
        return x;
    }

    private static void same(String what, Made due, Made got) {
        Check.same(what, Seen.things(due.make()), Seen.things(got.make()));
        Check.same(what + ", what is hidden", Seen.hidden(due.make()), Seen.hidden(got.make()));
    }

    /** Tools, blocks, types and pieces that are gone leave nothing to those that come in their place. */
    private static void roomsUsedAgain() {
        for (int i = 0; i <= STEPS; i++) {
            int steps = i;
            Made first = () -> {
                VernierDrawers x = new VernierDrawers();
                x.keep();
                return run(x, steps);
            };
            Made again = () -> {
                VernierDrawers x = new VernierDrawers();
                x.keep();
                run(x, STEPS);
                x.goBack();
                return run(x, steps);
            };
            same("69: " + steps + " steps once more", first, again);
        }
        looselyAgain();
    }

    /** A type that comes in the place of one that is looked at loosely, and of which a piece passed. */
    private static void looselyAgain() {
        VernierDrawers x = new VernierDrawers();
        x.addTool(4, 0);
        x.keep();
        for (int round = 0; round < 2; round++) {
            String what = "12: round " + round;
            x.addType(1000, -20, 20, 2);
            Check.is(what, 0, () -> x.mannerOf(0));
            for (int i = 0; i < 10; i++) {
                x.bring(0, 0);
                x.judge(0);
            }
            x.bring(0, 0);
            x.bring(0, 0);
            Check.is(what, 0, x::whyNotPass);
            x.passUnseen();
            Check.is(what, 3, x::whyNotPass);
            x.setWarmth(20);
            x.undo();
            Check.is(what + ", undone", 3, x::whyNotPass);
            x.goBack();
        }
    }

    /** Behind some steps one goes away and comes back, by undoing and by the snapshot, or by both. */
    private static void nothingIsForgotten() {
        for (int i = 1; i <= STEPS; i++) {
            int steps = i;
            Made stayed = () -> run(new VernierDrawers(), steps);
            same("71: undone behind step " + steps, stayed, () -> undone(stayed.make()));
            Made kept = () -> kept(stayed.make());
            same("69: back behind step " + steps, kept, () -> back(kept.make(), steps));
            same("69: back and back again behind step " + steps, kept, () -> back(back(undone(kept.make()), steps), 1));
        }
    }

    private static VernierDrawers kept(VernierDrawers x) {
        x.keep();
        return x;
    }

    private static VernierDrawers undone(VernierDrawers x) {
        x.setWarmth(50);
        x.endDay();
        x.undo();
        x.undo();
        return x;
    }

    private static VernierDrawers back(VernierDrawers x, int steps) {
        x.setWarmth(-10);
        if (steps > 5) {
            step(x, (steps * 7) % 20 + 6);
        }
        x.goBack();
        return x;
    }
}
