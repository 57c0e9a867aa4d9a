import com.sun.management.ThreadMXBean;
import java.lang.management.ManagementFactory;

/**
 * The room of a run of 512 calls (LANGUAGE.md, rule 12): some 600,000 objects and 7.3 million fields
 * and elements. An object takes 16 bytes or more, a field or an element mostly 4; the bound here
 * is far below that, so that a run which makes a state for each change is told.
 */
public final class RoomTest {
    private static final int CALLS = 512;
    private static final long MOST_BYTES = 1_200_000;
    private static final ThreadMXBean THREADS = (ThreadMXBean) ManagementFactory.getThreadMXBean();

    /** One call, by its place in the run. */
    private interface Run {
        void call(VernierDrawers x, int place);
    }

    private RoomTest() {
    }

    public static void main(String[] args) {
        looks();
        changes();
        refused();
        queue();
        Check.end();
    }

    private static void looks() {
        room("stacks", Made::full, (x, i) -> {
            x.stackable();
            x.fewestBlocks(510 + i % 9);
            x.fewestByTrying(510 + i % 9);
            x.trueLength(510 + i % 9);
        });
        room("readings", Made::full, (x, i) -> x.readingByLooking(i % 6, i % 3, 2000 + i % 400));
        room("charts", Made::full, (x, i) -> {
            x.middleOf(0);
            x.middleByTaking(0);
            x.signalsOf(0);
            x.meanOf(0);
        });
        room("faults", () -> Made.text("c0,100;".repeat(8) + "j0"), (x, i) -> x.faultPosition());
    }

    private static void changes() {
        room("calibrating", Made::full, (x, i) -> x.calibrate(i % 6, 510 + i % 9));
        room("throwing out", Made::full, (x, i) -> x.throwOut(0));
        room("keeping, going back, undoing", Made::full, (x, i) -> {
            x.keep();
            x.goBack();
            x.undo();
        });
        room("bringing and judging", () -> Made.type(-99, 99), (x, i) -> {
            x.bring(0, i % 90);
            x.judge(0);
            x.undo();
            x.undo();
        });
        room("playing", () -> Made.text("c0,100;p0,0;j0;p0,50;j0;f50;j0;"), (x, i) -> x.play());
    }

    private static void refused() {
        room("refused calls", Made::full, (x, i) -> {
            try {
                x.bring(0, 0);
            } catch (IllegalStateException e) {
                x.onBench();
            }
        });
    }

    /** Six more pieces are to be filed behind each play, in every state that is kept. */
    private static void queue() {
        room("a long queue", () -> {
            VernierDrawers x = Made.tool(4, 30);
            x.addBlock(99, 0);
            x.addType(1000, -5, 0, 2);
            Check.type(x, "c0,99;" + "p0,9;j0;".repeat(6));
            return x;
        }, (x, i) -> {
            if (i % 100 == 0) {
                x.keep();
            }
            x.play();
        });
    }

    /** At most this for the object, and 512 times what is called on it. */
    private static void room(String what, Made made, Run run) {
        taken(made, run);
        long bytes = taken(made, run);
        Check.is(what + ": a room of " + bytes + " bytes", 1, () -> Check.of(bytes < MOST_BYTES));
    }

    private static long taken(Made made, Run run) {
        long before = THREADS.getCurrentThreadAllocatedBytes();
        VernierDrawers x = made.make();
        for (int i = 0; i < CALLS; i++) {
            run.call(x, i);
        }
        return THREADS.getCurrentThreadAllocatedBytes() - before;
    }
}
