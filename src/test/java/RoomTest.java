import com.sun.management.ThreadMXBean;
import java.lang.management.ManagementFactory;

/** All calls of a run live in one room: an object is small, and its calls make nothing. */
public final class RoomTest {
    private static final Check CHECK = new Check("room");
    private static final int OBJECTS = 2000;
    /** So many of one object are fewer than 512 calls. */
    private static final int ROUNDS = 10;

    public static void main(String[] args) {
        ThreadMXBean threads = (ThreadMXBean) ManagementFactory.getThreadMXBean();
        HairLine[] kept = new HairLine[OBJECTS];
        long before = threads.getCurrentThreadAllocatedBytes();
        for (int i = 0; i < OBJECTS; i++) {
            kept[i] = new HairLine();
        }
        long each = (threads.getCurrentThreadAllocatedBytes() - before) / OBJECTS;
        CHECK.isTrue("an object takes " + each + " bytes", each < 4000);

        long sum = round(new HairLine(), 0);
        before = threads.getCurrentThreadAllocatedBytes();
        for (int i = 0; i < OBJECTS * ROUNDS; i++) {
            sum += round(kept[i / ROUNDS], i);
        }
        long made = threads.getCurrentThreadAllocatedBytes() - before;
        // a little is the measure's own
        CHECK.isTrue("calls made " + made + " bytes, sum " + sum, made < OBJECTS);
        CHECK.end();
    }

    /** Every call once or more. */
    private static long round(HairLine x, int i) {
        long sum = x.runner(-40 - i % 7, 1 + i % 3) + x.shape(i % 6, i % 5, i % 2, -i % 9, 5) + x.set(0, i % 4);
        sum += x.shows(i % 2, i % 300, i % 6) + x.moved(-1) + x.order(-1) + x.order(i % 6) + x.mended(i % 6);
        for (int what = 0; what < 8; what++) {
            sum += x.of(i % 6, what);
        }
        sum += x.place(i % 6, i % 2) + x.stretch(i % 6, i % 6) + x.speeds(1 + i % 19, i % 31, i % 2);
        sum += x.push(i % 6, i % 300) + x.wrong(i % 100, 100 + i % 100, 1 + i % 6, i % 2);
        sum += x.known(i % 4, 1000 + i % 50, 1000) + x.late(i % 4, i % 2) + x.tell(i % 4, i % 60 - 1);
        sum += x.time(i % 2) + x.old(i % 60) + x.fault() + x.wipe();
        sum += x.say('t') + x.say('<') + x.say('0' + i % 10) + x.rule() + x.record(i % 20, 0, 0, 0);
        sum += x.slit(i % 2, 1 + i % 63) + x.seen(i % 256, i % 2) + x.best(i % 9, i % 2) + x.told(i % 14);
        return sum;
    }
}
