import com.sun.management.ThreadMXBean;
import java.lang.management.ManagementFactory;

/** Wild arguments in every state: no call throws, each ends, and none makes an object. */
public final class RoomTest {
    private static final int[] WILD = {Integer.MIN_VALUE, -65, -41, -2, -1, 0, 1, 2, 3, 4, 5, 7, 9,
        14, 15, 23, 24, 31, 32, 39, 40, 63, 64, 255, 256, 500, 10001, Integer.MAX_VALUE};
    private static final Due due = new Due("RoomTest");

    public static void main(String[] args) {
        for (int mirrors : new int[] {0, 1, 6, 7, 8, 40}) {
            MirrorTower x = field(mirrors);
            for (int round = 0; round < 30; round++) {
                wildRound(x);
            }
            due.is("count(0) behind wild calls", x.count(0) >= mirrors, true);
        }
        room();
        due.end();
    }

    private static MirrorTower field(int mirrors) {
        MirrorTower x = new MirrorTower();
        for (int i = 0; i < mirrors; i++) {
            x.mirror(i % 15, 12 + i / 15);
        }
        for (int hour = 0; hour < 24; hour++) {
            x.sun(hour, hour % 2, 1, 1 + hour % 9);
        }
        return x;
    }

    private static void wildRound(MirrorTower x) {
        for (int a : WILD) {
            for (int b : WILD) {
                x.limit(b, a);
                x.wind(a, b);
                x.price(a, b);
                x.shaded(a, b, true);
                x.shaded(a, b, false);
                x.power(a, b);
                x.shot(a, b, a & 63);
                x.sun(a, b, a, b);
            }
            x.dust(a);
            x.stowed(a);
            x.soil(a);
            x.wash(a);
            x.aim(a);
            x.aimed(a);
            x.face(a);
            x.best(a);
            x.comes(a);
            x.runs(a);
            x.stuck(a);
            x.count(a);
        }
        x.plan();
        x.step(true);
        x.step(false);
        x.agree();
        x.unsure();
        x.forget();
        x.mirror(WILD[Math.abs(x.count(1)) % WILD.length], 3);
    }

    /** All rows are made in the constructor, so the room of a run is that of its objects alone. */
    private static void room() {
        ThreadMXBean threads = (ThreadMXBean) ManagementFactory.getThreadMXBean();
        long thread = Thread.currentThread().getId();
        MirrorTower x = field(40);
        long before = 0;
        for (int round = 0; round < 4; round++) {
            before = threads.getThreadAllocatedBytes(thread);
            wildRound(x);
        }
        long made = threads.getThreadAllocatedBytes(thread) - before;
        due.is("bytes made by some 6,500 calls are few: " + made, made < 2000, true);
        before = threads.getThreadAllocatedBytes(thread);
        field(0);
        made = threads.getThreadAllocatedBytes(thread) - before;
        due.is("bytes of a new object are few: " + made, made < 20000, true);
    }
}
