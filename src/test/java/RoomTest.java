import com.sun.management.ThreadMXBean;
import java.lang.management.ManagementFactory;

/** What a run makes: the rows of its one object, and nothing by its 512 calls, the dearest of them. */
public final class RoomTest {
    /** Far below one small object a call. */
    private static final long BYTES_OF_CALLS = 2048;
    private static final long BYTES_OF_OBJECT = 16384;

    private RoomTest() {
    }

    public static void main(String[] args) {
        Due due = new Due("RoomTest");
        ThreadMXBean bean = (ThreadMXBean) ManagementFactory.getThreadMXBean();
        AnswerPass early = new AnswerPass();
        runs(early);
        long before = bean.getCurrentThreadAllocatedBytes();
        AnswerPass x = new AnswerPass();
        long made = bean.getCurrentThreadAllocatedBytes();
        runs(x);
        long after = bean.getCurrentThreadAllocatedBytes();
        due.holds(made - before <= BYTES_OF_OBJECT, "an object takes " + (made - before) + " bytes");
        due.holds(after - made <= BYTES_OF_CALLS, "its calls take " + (after - made) + " bytes");
        due.close();
    }

    private static void runs(AnswerPass x) {
        for (int i = 0; i < 6; i++) {
            x.person(40 + i, 50);
        }
        x.drop(5, 1);
        x.drop(9, 1);
        x.drop(12, 1);
        x.sheet(0, 8, 24);
        for (int i = 0; i < 30; i++) {
            x.feed(0x296328212B632821L, 8);
            x.feed(0x29L, 1);
            x.text(0);
            x.fills(i % 6, 15, 20, 0);
            x.odds(i % 6, 15, 20, 0);
            x.least(i % 6, 15, 20);
            x.fits(0, i % 6, 0);
            x.withWhom(i % 6, 20);
            x.soonest(i % 6, 15);
            x.then(i % 6, 60, 0);
            x.voice(i % 6, 2, i);
            x.image();
            x.loose(1);
            x.restore();
            x.tell(50);
            x.check();
        }
    }
}
