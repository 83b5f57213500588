import com.sun.management.ThreadMXBean;
import java.lang.management.ManagementFactory;

/** Terms: all memory is the dictionary's own rows, used again: calls that are not refused make nothing. */
public final class RoomTest {
    private static final int TIMES = 2000;
    private static final long FOR_ALL_TIMES = 20_000;
    private static final long OVER = Typist.number("over");
    private static final long PATTERN = Typist.number("*o*r");

    public static void main(String[] args) {
        Check check = new Check();
        NearWords x = new NearWords();
        for (char c = '!'; c <= '~'; c++) {
            Typist.add(x, c + "over");
        }
        ThreadMXBean threads = (ThreadMXBean) ManagementFactory.getThreadMXBean();
        callAll(x);
        long before = threads.getCurrentThreadAllocatedBytes();
        for (int i = 0; i < TIMES; i++) {
            callAll(x);
        }
        long made = threads.getCurrentThreadAllocatedBytes() - before;
        check.due("little enough was made (" + made + " bytes)", "true", Boolean.toString(made < FOR_ALL_TIMES));
        check.end();
    }

    private static void callAll(NearWords x) {
        x.type(OVER, 0L);
        x.add();
        x.type(OVER, 0L);
        x.near(3);
        x.letter(0, 0);
        x.distance(0);
        x.type(PATTERN, 0L);
        x.like();
        x.type(OVER, 0L);
        x.before();
        x.type(OVER, 0L);
        x.remove();
        x.count(4);
    }
}
