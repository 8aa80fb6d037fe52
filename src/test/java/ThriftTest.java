import java.lang.management.ManagementFactory;

/** All calls of a run live in one room: a constructor makes little, and calls make nothing. */
public final class ThriftTest {
    private static final String TEXT = "page16 16;bleed1;icon3 1 0 0 0 0;frame4 6 0 0 0 0;border2 3 0 0 0 0;"
            + "logo3 3 1 1 1 1;frame5 2 0 0 0 0;icon7 7 0 0 0 0;";

    public static void main(String[] args) {
        com.sun.management.ThreadMXBean memory = (com.sun.management.ThreadMXBean) ManagementFactory.getThreadMXBean();
        for (int i = 0; i < 3; i++) everyCall(Check.sheet(TEXT));
        long before = memory.getCurrentThreadAllocatedBytes();
        long none = memory.getCurrentThreadAllocatedBytes() - before;
        before = memory.getCurrentThreadAllocatedBytes();
        FrameSheets x = new FrameSheets();
        long made = memory.getCurrentThreadAllocatedBytes() - before - none;
        Check.due("a new object takes at most 32 KiB, it takes " + made, 1, made > 0 && made <= 32768 ? 1 : 0);
        Check.lay(x, 0, TEXT);
        before = memory.getCurrentThreadAllocatedBytes();
        everyCall(x);
        long calls = memory.getCurrentThreadAllocatedBytes() - before - none;
        Check.due("calls make nothing but what measuring makes, they make " + calls, 1, calls <= 256 ? 1 : 0);
        Check.end();
    }

    private static void everyCall(FrameSheets x) {
        x.row(0, 40);
        x.row(1, 3);
        x.lay(0, 1, 5);
        x.at(0, 1);
        x.copy(0, 0, 1, 0, 3);
        x.copy(0, 0, 0, 1, 30);
        x.mean(0);
        x.tear(1);
        x.fault(0);
        x.sheet(0);
        x.write(1);
        x.text(2, 120);
        x.put(2, 3, 5);
        for (int f = 0; f < 6; f++) {
            x.frame(f, 3);
            x.mark(f, 1);
            x.set(f);
            x.place(f, 1);
            x.point(f, 1, 1);
        }
        x.lift(2);
        x.rule(2);
        x.all(1);
        x.lots(20, 77);
        x.keep(0);
        x.undo(3);
        x.on(0);
        for (int k = 0; k < 6; k++) x.free(0, k, 2);
        x.seen(0, 3, 3);
        x.used(0);
        x.takes(0);
        x.would(3, 2);
        x.best();
        for (int what = 0; what < 14; what++) x.count(what);
        x.asked();
        x.finding();
        x.findings(1);
        x.digest();
        x.at(9, 9);
        x.at(1, 1);
    }
}
