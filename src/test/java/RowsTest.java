/** Promises 1 to 9: a new object, rows, and the bytes of texts. */
public final class RowsTest {
    public static void main(String[] args) {
        newObject();
        row();
        lay();
        at();
        tear();
        copy();
        copyRefused();
        mean();
        text();
        put();
        Check.end();
    }

    private static void newObject() {
        FrameSheets x = new FrameSheets();
        for (int what = 0; what < 14; what++) Check.due("count(" + what + ")", 0, x.count(what));
        Check.due("asked()", 0, x.asked());
        Check.due("finding()", 0, x.finding());
        for (int f = 1; f <= 5; f++) Check.due("findings(" + f + ")", 0, x.findings(f));
        for (int r = 0; r < 6; r++) {
            int n = r;
            Check.finds(x, "tear(" + r + ")", Check.NOTHING, () -> x.tear(n));
        }
        for (int t = 0; t < 4; t++) {
            int n = t;
            Check.finds(x, "fault(" + t + ")", Check.NOTHING, () -> x.fault(n));
        }
    }

    private static void row() {
        FrameSheets x = new FrameSheets();
        Check.due("row(0, 40)", 40, x.row(0, 40));
        for (int i = 0; i < 40; i++) Check.tells(x, "at(0, " + i + ")", 0, x.at(0, i));
        Check.due("row(5, 0)", 0, x.row(5, 0));
        Check.due("rows", 2, x.count(11));
        Check.tells(x, "lay(0, 1, 7)", 0, x.lay(0, 1, 7));
        Check.due("row(0, 2) anew", 2, x.row(0, 2));
        Check.tells(x, "at(0, 1)", 0, x.at(0, 1));
        Check.finds(x, "at(0, 2)", Check.BEYOND, () -> x.at(0, 2));
        Check.leaves(x, "row(6, 1)", Check.BAD, () -> x.row(6, 1));
        Check.leaves(x, "row(-1, 1)", Check.BAD, () -> x.row(-1, 1));
        Check.leaves(x, "row(0, 41)", Check.BAD, () -> x.row(0, 41));
        Check.leaves(x, "row(6, -1)", Check.BAD, () -> x.row(6, -1));
        Check.leaves(x, "row(0, max)", Check.BAD, () -> x.row(0, Integer.MAX_VALUE));
        Check.finds(x, "row(0, -1)", Check.SIZE, () -> x.row(0, -1));
        Check.finds(x, "row(0, min)", Check.SIZE, () -> x.row(0, Integer.MIN_VALUE));
        Check.due("rows", 2, x.count(11));
    }

    private static void lay() {
        FrameSheets x = new FrameSheets();
        x.row(3, 3);
        Check.tells(x, "lay(3, 2, -5)", 0, x.lay(3, 2, -5));
        Check.tells(x, "lay(3, 2, max)", -5, x.lay(3, 2, Integer.MAX_VALUE));
        Check.tells(x, "lay(3, 2, 1)", Integer.MAX_VALUE, x.lay(3, 2, 1));
        Check.tells(x, "at(3, 1)", 0, x.at(3, 1));
        Check.leaves(x, "lay(6, 0, 1)", Check.BAD, () -> x.lay(6, 0, 1));
        Check.leaves(x, "lay(-1, 0, 1)", Check.BAD, () -> x.lay(-1, 0, 1));
        Check.finds(x, "lay(2, 9, 1)", Check.NOTHING, () -> x.lay(2, 9, 1));
        Check.finds(x, "lay(3, 3, 1)", Check.BEYOND, () -> x.lay(3, 3, 1));
        Check.finds(x, "lay(3, -1, 1)", Check.BEYOND, () -> x.lay(3, -1, 1));
        Check.due("asked() stays", 0, x.asked());
    }

    private static void at() {
        FrameSheets x = new FrameSheets();
        x.row(1, 2);
        x.lay(1, 0, 11);
        x.lay(1, 1, Integer.MIN_VALUE);
        Check.tells(x, "at(1, 0)", 11, x.at(1, 0));
        Check.tells(x, "at(1, 1)", Integer.MIN_VALUE, x.at(1, 1));
        Check.leaves(x, "at(6, 0)", Check.BAD, () -> x.at(6, 0));
        Check.leaves(x, "at(-1, 0)", Check.BAD, () -> x.at(-1, 0));
        Check.finds(x, "at(0, 0)", Check.NOTHING, () -> x.at(0, 0));
        Check.finds(x, "at(1, 2)", Check.BEYOND, () -> x.at(1, 2));
        Check.finds(x, "at(1, -1)", Check.BEYOND, () -> x.at(1, -1));
    }

    private static void tear() {
        FrameSheets x = new FrameSheets();
        x.row(4, 1);
        x.row(5, 1);
        Check.due("tear(4)", 1, x.tear(4));
        Check.due("rows", 1, x.count(11));
        Check.finds(x, "at(4, 0)", Check.NOTHING, () -> x.at(4, 0));
        Check.finds(x, "tear(4)", Check.NOTHING, () -> x.tear(4));
        Check.leaves(x, "tear(6)", Check.BAD, () -> x.tear(6));
        Check.leaves(x, "tear(-1)", Check.BAD, () -> x.tear(-1));
    }

    private static FrameSheets counted(int r, int n) {
        FrameSheets x = new FrameSheets();
        x.row(r, n);
        for (int i = 0; i < n; i++) x.lay(r, i, i + 1);
        return x;
    }

    private static void rowIs(FrameSheets x, int r, int... want) {
        for (int i = 0; i < want.length; i++) Check.tells(x, "at(" + r + ", " + i + ")", want[i], x.at(r, i));
        Check.finds(x, "at(" + r + ", its size)", Check.BEYOND, () -> x.at(r, want.length));
    }

    private static void copy() {
        FrameSheets x = counted(0, 5);
        Check.due("copy on itself, up", 1, x.copy(0, 0, 0, 1, 4));
        rowIs(x, 0, 1, 1, 2, 3, 4);
        FrameSheets y = counted(0, 5);
        Check.due("copy on itself, down", 1, y.copy(0, 2, 0, 0, 3));
        rowIs(y, 0, 3, 4, 5, 4, 5);
        y.row(2, 4);
        Check.due("copy to another", 1, y.copy(0, 1, 2, 2, 2));
        rowIs(y, 2, 0, 0, 4, 5);
        rowIs(y, 0, 3, 4, 5, 4, 5);
        Check.due("copy of none at the ends", 1, y.copy(0, 5, 2, 4, 0));
        rowIs(y, 2, 0, 0, 4, 5);
    }

    private static void copyRefused() {
        FrameSheets x = counted(0, 5);
        x.row(1, 3);
        Check.leaves(x, "copy from 6", Check.BAD, () -> x.copy(6, 0, 1, 0, -1));
        Check.leaves(x, "copy from -1", Check.BAD, () -> x.copy(-1, 0, 1, 0, 1));
        Check.leaves(x, "copy to 6", Check.BAD, () -> x.copy(0, 0, 6, 0, -1));
        Check.leaves(x, "copy to -1", Check.BAD, () -> x.copy(0, 0, -1, 0, 1));
        Check.finds(x, "copy of -1, missing", Check.SIZE, () -> x.copy(2, -1, 3, -1, -1));
        Check.finds(x, "copy from missing", Check.NOTHING, () -> x.copy(2, 9, 1, 0, 1));
        Check.finds(x, "copy to missing", Check.NOTHING, () -> x.copy(0, 9, 2, 0, 1));
        Check.finds(x, "copy from -1", Check.BEYOND, () -> x.copy(0, -1, 1, 0, 1));
        Check.finds(x, "copy to place -1", Check.BEYOND, () -> x.copy(0, 0, 1, -1, 1));
        Check.finds(x, "copy of too many", Check.BEYOND, () -> x.copy(0, 0, 1, 0, 4));
        Check.finds(x, "copy from too few", Check.BEYOND, () -> x.copy(1, 1, 0, 0, 3));
        Check.finds(x, "copy to too few", Check.BEYOND, () -> x.copy(0, 0, 1, 1, 3));
        Check.finds(x, "copy that wraps around", Check.BEYOND, () -> x.copy(0, 1, 1, 1, Integer.MAX_VALUE));
        Check.finds(x, "copy from far", Check.BEYOND, () -> x.copy(0, Integer.MAX_VALUE, 1, 0, 1));
        Check.finds(x, "copy of none from beyond", Check.BEYOND, () -> x.copy(0, 6, 1, 0, 0));
        rowIs(x, 0, 1, 2, 3, 4, 5);
        rowIs(x, 1, 0, 0, 0);
    }

    private static void mean() {
        FrameSheets x = new FrameSheets();
        x.row(0, 3);
        x.lay(0, 0, 5);
        x.lay(0, 1, 2);
        x.lay(0, 2, 1);
        Check.tells(x, "mean of 5, 2, 1", 2, x.mean(0));
        x.lay(0, 0, -5);
        x.lay(0, 1, -2);
        x.lay(0, 2, -1);
        Check.tells(x, "mean of -5, -2, -1 is cut", -2, x.mean(0));
        x.row(0, 2);
        x.lay(0, 0, Integer.MAX_VALUE);
        x.lay(0, 1, Integer.MAX_VALUE);
        Check.tells(x, "mean of the greatest", Integer.MAX_VALUE, x.mean(0));
        x.lay(0, 0, Integer.MIN_VALUE);
        x.lay(0, 1, Integer.MIN_VALUE);
        Check.tells(x, "mean of the least", Integer.MIN_VALUE, x.mean(0));
        x.row(1, 0);
        Check.finds(x, "mean of none", Check.NOUGHT, () -> x.mean(1));
        Check.finds(x, "mean of a missing one", Check.NOTHING, () -> x.mean(2));
        Check.leaves(x, "mean(6)", Check.BAD, () -> x.mean(6));
        Check.leaves(x, "mean(-1)", Check.BAD, () -> x.mean(-1));
    }

    private static void text() {
        FrameSheets x = new FrameSheets();
        Check.due("text(3, 120)", 120, x.text(3, 120));
        Check.due("put(3, 119, 65)", 1032, x.put(3, 119, 65));
        Check.due("text(0, 0)", 0, x.text(0, 0));
        Check.due("texts", 2, x.count(12));
        Check.due("text(3, 120) anew", 120, x.text(3, 120));
        Check.due("put(3, 119, 65)", 1032, x.put(3, 119, 65));
        Check.leaves(x, "text(4, 1)", Check.BAD, () -> x.text(4, 1));
        Check.leaves(x, "text(-1, 1)", Check.BAD, () -> x.text(-1, 1));
        Check.leaves(x, "text(4, -1)", Check.BAD, () -> x.text(4, -1));
        Check.leaves(x, "text(0, 121)", Check.BAD, () -> x.text(0, 121));
        Check.finds(x, "text(0, -1)", Check.SIZE, () -> x.text(0, -1));
    }

    private static void put() {
        FrameSheets x = new FrameSheets();
        x.text(1, 2);
        Check.due("put(1, 0, 127)", 1032, x.put(1, 0, 127));
        Check.due("put(1, 0, 128)", 1127, x.put(1, 0, 128));
        Check.due("put(1, 0, 255)", 872, x.put(1, 0, 255));
        Check.due("put(1, 0, 256)", 999, x.put(1, 0, 256));
        Check.due("put(1, 0, -129)", 1000, x.put(1, 0, -129));
        Check.due("put(1, 0, 0)", 1127, x.put(1, 0, 0));
        Check.due("put(1, 1, 0) was left alone", 1032, x.put(1, 1, 0));
        Check.leaves(x, "put(4, 0, 1)", Check.BAD, () -> x.put(4, 0, 1));
        Check.leaves(x, "put(-1, 0, 1)", Check.BAD, () -> x.put(-1, 0, 1));
        Check.finds(x, "put(0, 9, 1)", Check.NOTHING, () -> x.put(0, 9, 1));
        Check.finds(x, "put(1, 2, 1)", Check.BEYOND, () -> x.put(1, 2, 1));
        Check.finds(x, "put(1, -1, 1)", Check.BEYOND, () -> x.put(1, -1, 1));
        Check.due("asked() is not put's", 0, x.asked());
    }
}
