import com.sun.management.ThreadMXBean;
import java.lang.management.ManagementFactory;

/**
 * All calls of one run live in one room, and nothing in it is given back: a new object takes some
 * kilobytes, and the dearest calls take nothing more, however often they come.
 */
public final class RoomTest {
    private static final ThreadMXBean BEAN = (ThreadMXBean) ManagementFactory.getThreadMXBean();
    private static final Check check = new Check();

    public static void main(String[] args) {
        // The first object and its calls load the classes, which is not counted.
        dearest(new BlockStage());
        long before = taken();
        BlockStage x = new BlockStage();
        long fresh = taken() - before;
        before = taken();
        int calls = dearest(x);
        long dear = taken() - before;
        x = new BlockStage();
        costlyLeast(x);
        int answers = 0;
        before = taken();
        for (int i = 0; i < 20; i++) answers += x.least(40);
        long least = taken() - before;
        check.due("20 times least(40)", answers, -20);
        check.holds("a new object takes " + fresh + " bytes", fresh < 40000);
        check.holds(calls + " calls take " + dear + " bytes", dear < 60L * calls);
        check.holds("20 times least takes " + least + " bytes", least < 2000);
        check.end();
    }

    private static long taken() {
        return BEAN.getCurrentThreadAllocatedBytes();
    }

    /** Nearly all of an object's 512 calls, the dear ones most. */
    private static int dearest(BlockStage x) {
        int calls = 0;
        x.stage(8, 8);
        for (int a = 0; a < 3; a++) x.actor(a, a, 1);
        x.keep();
        for (int s = 0; s < 6; s++) {
            x.cue(s % 3, 2, 1, 0);
            x.top(s, x.block(5, 0));
        }
        x.flag();
        for (int i = 0; i < 60; i++) {
            x.tick(100);
            x.tick(5);
            x.back(3);
            x.mark(40);
            x.write(0);
            x.act(0, 2, i);
            x.sheet(0, 2, 70);
            calls += 7;
        }
        return calls;
    }

    /** Eight turns in one row, four stages, a wish that nothing meets: all rows of changes are looked through. */
    private static void costlyLeast(BlockStage x) {
        x.stage(8, 8);
        x.actor(0, 0, 1);
        for (int k = 0; k < 4; k++) x.keep();
        int last = -1;
        for (int b = 0; b < 8; b++) {
            int block = x.block(1, 1);
            if (last >= 0) x.join(last, 0, block);
            last = block;
        }
        x.cue(0, 0, 0, 0);
        x.top(0, 0);
        String wish = "end x0=7";
        for (int i = 0; i < wish.length(); i++) x.feed(wish.charAt(i), 1);
        x.wish();
    }
}
