/** Promises 31 to 35: asked(), count(), findings and digest(). */
public final class ToldTest {
    public static void main(String[] args) {
        asked();
        count();
        countRefused();
        findings();
        digestOfNew();
        digest();
        Check.end();
    }

    private static void asked() {
        FrameSheets x = new FrameSheets();
        Check.due("asked() before", 0, x.asked());
        x.row(0, 2);
        x.lay(0, 0, 8);
        Check.tells(x, "lay tells what was", 8, x.lay(0, 0, 9));
        x.at(0, 5);
        x.row(1, 3);
        Check.due("others leave it", 8, x.asked());
        Check.lay(x, 0, "page 5 4;bleed 1;icon 1 2 0 0 0 0;icon 4 4 0 0 0 0;");
        x.sheet(0);
        Check.due("put, text, sheet leave it", 8, x.asked());
        Check.due("place() of one not set", Check.NONE, x.place(0, 0));
        Check.due("NONE leaves it", 8, x.asked());
        x.set(0);
        x.mark(0, 1);
        x.point(0, 0, 0);
        x.count(7);
        x.digest();
        x.write(1);
        x.keep(0);
        x.on(0);
        x.fault(0);
        x.copy(0, 0, 1, 0, 1);
        Check.due("these leave it", 8, x.asked());
        Check.due("seen() of none", Check.NONE, x.seen(0, 4, 0));
        Check.due("free() of none", Check.NONE, x.free(0, 5, 0));
        Check.due("they leave it", 8, x.asked());
        Check.tells(x, "mean", 4, x.mean(0));
        Check.tells(x, "frame", 3, x.frame(0, 3));
        Check.tells(x, "free", 2, x.free(0, 0, 2));
        Check.tellsToo(x, "seen", 0, 1, x.seen(0, 2, 3));
        Check.tellsToo(x, "used", 12, 60, x.used(0));
        Check.tellsToo(x, "takes", 0, 8, x.takes(0));
        Check.tellsToo(x, "would", 1, 2, x.would(1, 1));
        Check.tellsToo(x, "best", 0, 1, x.best());
        x.lots(3, 7);
        x.undo(0);
        Check.due("lots, undo leave it", 1, x.asked());
    }

    private static void countIs(FrameSheets x, int... want) {
        for (int what = 0; what < 14; what++) Check.due("count(" + what + ")", want[what], x.count(what));
    }

    private static void count() {
        FrameSheets x = Check.sheet("page 5 4;bleed 1;frame 3 1 0 0 0 0;frame 1 3 0 0 0 0;icon 2 1 0 0 0 0;frame 9 9 0 0 0 0;");
        countIs(x, 4, 0, 0, 5, 4, 1, 0, 0, 0, 0, 0, 0, 1, 0);
        x.rule(1);
        x.set(0);
        x.set(1);
        x.set(2);
        x.keep(0);
        x.keep(2);
        x.row(3, 0);
        x.row(4, 9);
        x.text(3, 0);
        countIs(x, 4, 3, 3, 5, 4, 1, 1, 15 + 15 + 12, 1 + 1 + 2, 1, 4, 2, 2, 2);
        x.lift(1);
        countIs(x, 4, 2, 3, 5, 4, 1, 1, 15 + 12, 1 + 1 + 2, 0, 5, 2, 2, 2);
        x.tear(3);
        Check.due("rows", 1, x.count(11));
    }

    private static void countRefused() {
        FrameSheets x = new FrameSheets();
        Check.leaves(x, "count(14)", Check.BAD, () -> x.count(14));
        Check.leaves(x, "count(-1)", Check.BAD, () -> x.count(-1));
        Check.leaves(x, "count(min)", Check.BAD, () -> x.count(Integer.MIN_VALUE));
    }

    private static void findings() {
        FrameSheets x = new FrameSheets();
        Check.leaves(x, "findings(0)", Check.BAD, () -> x.findings(0));
        Check.leaves(x, "findings(6)", Check.BAD, () -> x.findings(6));
        Check.leaves(x, "findings(-1)", Check.BAD, () -> x.findings(-1));
        x.row(0, 0);
        Check.lay(x, 0, "page 4 4;frame 1 1 0 0 0 0;");
        x.sheet(0);
        for (int i = 0; i < 2; i++) x.tear(1);
        for (int i = 0; i < 3; i++) x.at(0, 0);
        for (int i = 0; i < 4; i++) x.mark(0, 1);
        for (int i = 0; i < 5; i++) x.mean(0);
        for (int i = 0; i < 6; i++) x.row(0, -1);
        x.row(9, -1);
        x.on(7);
        Check.due("finding() is the latest", 5, x.finding());
        for (int f = 1; f <= 5; f++) Check.due("findings(" + f + ")", f + 1, x.findings(f));
        x.on(0);
        Check.due("finding() is the latest", 1, x.finding());
        Check.due("findings(1)", 3, x.findings(1));
        x.row(0, 1);
        Check.due("finding() stays", 1, x.finding());
    }

    private static long mixed(long h, int... values) {
        long sum = h;
        for (int v : values) sum = 31 * sum + v;
        return sum;
    }

    private static void digestOfNew() {
        long h = mixed(17, new int[14]);
        h = mixed(h, -1, -1, -1);
        h = mixed(h, -1, -1, -1, -1, -1, -1);
        h = mixed(h, -1, -1, -1, -1);
        Check.due("digest() of a new object", h, new FrameSheets().digest());
    }

    private static void digest() {
        FrameSheets x = Check.sheet("page 5 4;border 1 3 0 0 0 0;logo 2 1 1 0 0 0;frame 9 9 0 0 0 0;");
        x.set(1);
        x.set(0);
        x.keep(1);
        x.rule(2);
        x.row(1, 2);
        x.lay(1, 0, Integer.MIN_VALUE);
        x.lay(1, 1, 77);
        x.row(5, 0);
        x.text(0, 0);
        x.text(2, 3);
        x.put(2, 1, 200);
        x.fault(2);
        long h = mixed(17, 3, 2, 1, 5, 4, 0, 2, 17, 1, 1, 3, 2, 2, 1);
        h = mixed(h, 2, 1, 3, 3, 5, 0, 0, 1, 1);
        h = mixed(h, 3, 2, 1, 2, 1, 0, 0, 0, 0);
        h = mixed(h, 0, 9, 9, 9, 9, -1);
        h = mixed(h, -1, 2, -1);
        h = mixed(h, -1, 2, Integer.MIN_VALUE, 77, -1, -1, -1, 0);
        h = mixed(h, 0, -1, 3, 32, -56, 32, -1);
        Check.due("digest()", h, x.digest());
        Check.due("digest() again", h, x.digest());
    }
}
