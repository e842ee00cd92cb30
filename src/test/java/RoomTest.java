import com.sun.management.ThreadMXBean;
import java.lang.management.ManagementFactory;

/** All calls of a run share one room: an object is small, and its calls leave nothing behind. */
public final class RoomTest {
    private static final long OBJECT_BYTES = 8192;
    /** Far less than one object for each call. */
    private static final long NOISE_BYTES = 1024;

    private static int sum = 0;

    private static void build(GlassStack x) {
        for (int i = 0; i < 6; i++) {
            sum += x.layer(0, i, 9 - i, 8 - i, 4);
            sum += x.list(9, 3 + i);
        }
        for (int i = 0; i < 8; i++) {
            sum += x.pane(96, 97, 1, 100);
        }
        x.edge(0, 1, 9, 7);
        x.light(-24, 25);
        x.copy(0);
    }

    private static void use(GlassStack x) {
        for (int i = 0; i < 38; i++) {
            x.turn(1);
            sum += x.back(0, true, i) + x.on(0, false, i) + x.entry(0, i % 4, false, i) + x.sign(0, i % 4);
            sum += x.less() + x.extreme(0, 25, true) + x.share(i % 4, true, i) + x.about(0, 0, i % 3);
            sum += (x.same() ? 1 : 0) + (x.stops(0) ? 1 : 0) + x.choose(1, 3);
            x.copy(0);
        }
        sum += x.clear();
        x.unlist();
    }

    public static void main(String[] args) {
        ThreadMXBean memory = (ThreadMXBean) ManagementFactory.getThreadMXBean();
        GlassStack first = new GlassStack();
        build(first);
        use(first);
        memory.getCurrentThreadAllocatedBytes();
        Due due = new Due();
        long before = memory.getCurrentThreadAllocatedBytes();
        GlassStack x = new GlassStack();
        long made = memory.getCurrentThreadAllocatedBytes();
        build(x);
        use(x);
        long used = memory.getCurrentThreadAllocatedBytes();
        System.out.println("an object: " + (made - before) + " bytes; its calls: " + (used - made) + " bytes; " + sum);
        due.isTrue("an object is small", made - before < OBJECT_BYTES);
        due.isTrue("the calls leave nothing behind", used - made < NOISE_BYTES);
        due.end();
    }
}
