import com.sun.management.ThreadMXBean;
import java.lang.management.ManagementFactory;

/** All calls of a run share one room: the constructor makes what is needed, and no call makes more. */
public final class RoomTest {
    private static final long MOST_OF_AN_OBJECT = 60_000;
    private static final long MOST_OF_THE_CALLS = 20_000;

    private RoomTest() {
    }

    public static void main(String[] args) {
        calls(prepared());
        StructureEditor measured = prepared();
        long start = made();
        StructureEditor x = new StructureEditor();
        long object = made() - start;
        Due.due("bytes that an object takes: " + object, object > MOST_OF_AN_OBJECT ? 1 : 0, 0);
        Due.due("the object is usable", x.length(), 0);
        start = made();
        calls(measured);
        long calls = made() - start;
        Due.due("bytes that the calls take: " + calls, calls > MOST_OF_THE_CALLS ? 1 : 0, 0);
        Due.finish();
    }

    private static long made() {
        ThreadMXBean bean = (ThreadMXBean) ManagementFactory.getThreadMXBean();
        return bean.getThreadAllocatedBytes(Thread.currentThread().getId());
    }

    private static StructureEditor prepared() {
        StructureEditor x = new StructureEditor();
        Due.define(x, 0, "a:{.100;};b:c(a,a);d:c(a,b);e:c(a,d);f:c(a,e);g:c(a,f);h:u1*40;", 8);
        for (int n = 0; n < 3; n++) {
            x.insert(0, 77 + n, 64);
        }
        for (int overlay = 0; overlay < 4; overlay++) {
            x.lay(overlay, 0, 0);
        }
        return x;
    }

    /** With those that prepared it, no more than the 512 that an object is used for. */
    private static void calls(StructureEditor x) {
        long sum = 0;
        for (int n = 0; n < 18; n++) {
            sum += x.digest() + x.distance() + x.repair(0, 4) + x.counterpart(0, 3, 1) + x.refresh() + x.undo();
            sum += x.insert(0, 1, 1) + x.delete(0, 1) + x.mark() + x.copy(0, 32) + x.pasteOver(5) + x.redo();
            sum += x.type('a') + x.templateFault() + x.patternFault() + x.clearText() + x.define(3) + x.count(1);
            sum += x.setField(0, 0, n) + x.follow(n % 2 == 0) + x.lay(0, 0, n) + x.remove(3) + x.lay(3, 0, 0);
        }
        Due.due("the calls answered", sum == 0 ? 1 : 0, 0);
    }
}
