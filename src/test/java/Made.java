/** Makes objects of which the tests say what is due; each is made anew for each look. */
interface Made {
    VernierDrawers make();

    static VernierDrawers empty() {
        return new VernierDrawers();
    }

    static VernierDrawers tool(int kind, int error) {
        VernierDrawers x = new VernierDrawers();
        x.addTool(kind, error);
        return x;
    }

    /** A screw that tells each hundredth, and blocks of these lengths without errors. */
    static VernierDrawers blocks(int... lengths) {
        VernierDrawers x = tool(4, 0);
        for (int length : lengths) {
            x.addBlock(length, 0);
        }
        return x;
    }

    /** A screw, and a type of 1000 of aluminium with these limits. */
    static VernierDrawers type(int lower, int upper) {
        VernierDrawers x = tool(4, 0);
        x.addType(1000, lower, upper, 2);
        return x;
    }

    /** The same, of which these deviations have been judged, each until it was a result. */
    static VernierDrawers judged(int lower, int upper, int... deviations) {
        VernierDrawers x = type(lower, upper);
        results(x, deviations);
        return x;
    }

    /** Brings pieces of the type 0 and judges each; a tool that is worn or due is undone and left. */
    static void results(VernierDrawers x, int... deviations) {
        for (int deviation : deviations) {
            if (x.usesOf(x.tools() - 1) >= 18) {
                x.addTool(4, 0);
            }
            x.bring(0, deviation);
            if (x.judge(x.tools() - 1) == 3) {
                x.judge(x.tools() - 1);
            }
        }
    }

    /** Some of everything: a doubted piece, two to be filed, a snapshot, a text, a history of 4 states. */
    static VernierDrawers busy() {
        VernierDrawers x = new VernierDrawers();
        x.addTool(4, 3);
        x.addTool(0, -5);
        x.addBlock(500, 2);
        x.addBlock(200, -1);
        x.addType(2000, -20, 30, 1);
        x.addType(150, -9, 9, 0);
        x.calibrate(0, 700);
        int[][] pieces = {{0, 0}, {0, 60}, {1, -40}, {0, 31}, {0, 61}, {1, 5}};
        for (int[] piece : pieces) {
            x.bring(piece[0], piece[1]);
        }
        for (int i = 0; i < 5; i++) {
            x.judge(0);
        }
        x.setTolerance(7);
        x.keep();
        x.bring(1, 1);
        Check.type(x, "p0,5;x");
        x.setWarmth(25);
        x.endDay();
        x.measure(0, 0, 100);
        x.setWarmth(30);
        return x;
    }

    /** As many of everything as can be; the piece to be filed cannot come to the bench. */
    static VernierDrawers full() {
        VernierDrawers x = new VernierDrawers();
        for (int i = 0; i < 6; i++) {
            x.addTool(4, i);
        }
        for (int i = 0; i < 10; i++) {
            x.addBlock(100 + i, 0);
        }
        for (int i = 0; i < 5; i++) {
            x.addType(1000 + i, -20, 20, 0);
        }
        for (int i = 0; i < 12; i++) {
            x.bring(0, i - 6);
            x.judge(0);
        }
        x.bring(0, 60);
        x.judge(0);
        for (int i = 0; i < 20; i++) {
            x.bring(i % 5, i);
        }
        for (int i = 0; i < 60; i++) {
            x.type('0');
        }
        return x;
    }

    /** The type 0 is looked at loosely, and a piece of it has passed unseen; one more waits. */
    static VernierDrawers passed() {
        VernierDrawers x = judged(-20, 20, 0, 0, 0, 0, 0, 0, 0, 0, 0, 0);
        x.bring(0, 0);
        x.passUnseen();
        x.bring(0, 0);
        return x;
    }

    /** As many days as this have ended, up to 999, by texts of 27 days or less. */
    static VernierDrawers late(int days) {
        VernierDrawers x = tool(4, 0);
        Check.write(x, "d;".repeat(27));
        Check.playTimes(x, days / 27);
        for (int i = 0; i < days % 27; i++) {
            x.endDay();
        }
        return x;
    }

    /** A text of this, ahead of it a screw, a block of 100 and a type of 1000 of steel. */
    static VernierDrawers text(String text) {
        VernierDrawers x = blocks(100);
        x.addType(1000, -20, 20, 0);
        Check.type(x, text);
        return x;
    }
}
