import com.sun.management.ThreadMXBean;
import java.lang.management.ManagementFactory;

/** All calls live in one room: an object is small, and no call makes anything. */
public final class RoomTest {
    private static final ThreadMXBean BEAN = (ThreadMXBean) ManagementFactory.getThreadMXBean();

    public static void main(String[] args) {
        LotNobodyWants x = fullYear();
        everyCall(x);
        long before = BEAN.getCurrentThreadAllocatedBytes();
        for (int k = 0; k < 10; k++) {
            everyCall(x);
        }
        long calls = BEAN.getCurrentThreadAllocatedBytes() - before;
        Check.due("calls that make nothing: bytes " + calls, calls < 2000 ? 1 : 0, 1);
        before = BEAN.getCurrentThreadAllocatedBytes();
        new LotNobodyWants();
        long made = BEAN.getCurrentThreadAllocatedBytes() - before;
        Check.due("an object's bytes " + made, made < 40000 ? 1 : 0, 1);
        Check.finish();
    }

    private static LotNobodyWants fullYear() {
        LotNobodyWants x = new LotNobodyWants();
        for (int k = 0; k < 6; k++) {
            x.person(k);
        }
        for (int k = 0; k < 12; k++) {
            x.ticket(0, 0);
            x.mend(k, 6, k % 4);
        }
        for (int kind = 0; kind < 8; kind++) {
            x.body(kind);
        }
        x.row(0, 0, 12);
        for (int k = 0; k < 12; k++) {
            x.put(0, k, 8 * k + 1 + k % 5);
        }
        x.row(1, 0, 0);
        return x;
    }

    private static void everyCall(LotNobodyWants x) {
        x.feed('n');
        x.feed('<');
        x.feed('3');
        x.law();
        for (int what = 0; what < 5; what++) {
            x.behind(0, 1, what);
        }
        x.rid(0, 3, 0);
        x.first(0, 3);
        x.drawn(7, 3030, 0);
        x.likely(0, 5, 1);
        x.all(0, 1);
        x.later(0, 12, 3);
        x.eve(0, 12, -2);
        x.king(0, 1);
        x.hire(0, 3, 0);
        x.friend(1, 5);
        x.half();
        x.watch(1);
        x.image();
        x.slip(1, 1);
        x.back();
        x.mend(0, 8, 4);
        x.undo();
        x.redo();
        x.undo();
        x.act(7, 3, 5);
        x.shift(0, 0, 0, 1, 3);
        x.row(2, 3, 60);
    }
}
