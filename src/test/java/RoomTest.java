import com.sun.management.ThreadMXBean;
import java.lang.management.ManagementFactory;

/** Terms: all memory is the dictionary's own rows, used again: calls that are not refused make nothing. */
public final class RoomTest {
    private static final int TIMES = 2000;
    private static final long FOR_ALL_TIMES = 20_000;
    private static final long OVER = Typist.number("over");
    private static final long PATTERN = Typist.number("*o*r");

    private static final long FOR_ONE_OBJECT = 64_000;
    private static final ThreadMXBean THREADS = (ThreadMXBean) ManagementFactory.getThreadMXBean();

    public static void main(String[] args) {
        Check check = new Check();
        rowsUsedAgain(check);
        rowsOfOneObject(check);
        check.end();
    }

    private static void rowsUsedAgain(Check check) {
        check.sentence("All memory is the dictionary's own rows, used again.");
        NearWords x = new NearWords();
        for (char c = '!'; c <= '~'; c++) {
            Typist.add(x, c + "over");
        }
        callAll(x);
        long before = THREADS.getCurrentThreadAllocatedBytes();
        for (int i = 0; i < TIMES; i++) {
            callAll(x);
        }
        long made = THREADS.getCurrentThreadAllocatedBytes() - before;
        check.due("little enough was made (" + made + " bytes)", true, made < FOR_ALL_TIMES);
    }

    private static void rowsOfOneObject(Check check) {
        check.sentence("All memory is the dictionary's own rows: they are small");
        Typist.with("over");
        long before = THREADS.getCurrentThreadAllocatedBytes();
        for (int i = 0; i < TIMES; i++) {
            new NearWords().count(0);
        }
        long made = (THREADS.getCurrentThreadAllocatedBytes() - before) / TIMES;
        check.due("one object is small enough (" + made + " bytes)", true, made < FOR_ONE_OBJECT);
    }

    private static void callAll(NearWords x) {
        x.type(OVER, 0L);
        x.add();
        x.type(OVER, 0L);
        x.near(3);
        x.letter(0, 0);
        x.distance(0);
        x.type(PATTERN, 0L);
        x.like();
        x.type(OVER, 0L);
        x.before();
        x.type(OVER, 0L);
        x.remove();
        x.count(4);
    }
}
