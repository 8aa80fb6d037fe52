/** Promises 23 to 27: what is free, seen, where points are, what is used, what a page takes. */
public final class PlacesTest {
    public static void main(String[] args) {
        free();
        freeOfManyRuns();
        freeRefused();
        seen();
        seenTurned();
        seenRefused();
        point();
        pointTurned();
        pointRefused();
        used();
        takes();
        Check.end();
    }

    private static void freeIs(FrameSheets x, int page, int... want) {
        for (int k = 0; k < want.length; k++) {
            Check.due("free " + k + " of page " + page, want[k], Check.rectangle(x, page, k));
        }
        Check.due("no more free", Check.NONE, x.free(page, want.length, 0));
    }

    private static void free() {
        FrameSheets x = Check.sheet("page 8 6;icon 5 2 0 0 0 0;icon 3 1 0 0 0 0;icon 8 6 0 0 0 0;");
        x.set(0);
        freeIs(x, 0, 5000306, 20804);
        x.set(1);
        freeIs(x, 0, 5010305, 20804);
        x.set(2);
        freeIs(x, 1);
        Check.due("free(1, 0, 3)", Check.NONE, x.free(1, 0, 3));
        x.lift(0);
        x.lift(1);
        freeIs(x, 0, 806);
        Check.due("free rectangles", 1, x.count(8));
    }

    /** Three bars above leave four kinds of rectangles, some at the same y and x. */
    private static void freeOfManyRuns() {
        FrameSheets x = Check.sheet("page 7 7;icon 1 3 0 0 0 0;icon 1 2 0 0 0 0;icon 1 1 0 0 0 0;icon 1 1 0 0 0 0;");
        x.rule(2);
        for (int f = 0; f < 4; f++) x.set(f);
        Check.due("low goes to 0, 0", 0, Check.spot(x, 0));
        Check.due("then beside it", 10000, Check.spot(x, 1));
        Check.due("then beside that", 20000, Check.spot(x, 2));
        Check.due("then beside that", 30000, Check.spot(x, 3));
        freeIs(x, 0, 4000307, 2010506, 1020605, 30704);
        x.lift(1);
        freeIs(x, 0, 1000107, 4000307, 1010606, 30704);
        x.lift(0);
        freeIs(x, 0, 207, 4000307, 10706);
    }

    private static void freeRefused() {
        FrameSheets none = new FrameSheets();
        Check.leaves(none, "free, no sheet", Check.BAD, () -> none.free(0, 0, 0));
        FrameSheets x = Check.sheet("page 4 4;icon 2 2 0 0 0 0;");
        Check.leaves(x, "free, no page", Check.BAD, () -> x.free(0, 0, 0));
        x.set(0);
        Check.leaves(x, "free(1, 0, 0)", Check.BAD, () -> x.free(1, 0, 0));
        Check.leaves(x, "free(-1, 0, 0)", Check.BAD, () -> x.free(-1, 0, 0));
        Check.leaves(x, "free(0, -1, 0)", Check.BAD, () -> x.free(0, -1, 0));
        Check.leaves(x, "free(0, 9, 4)", Check.BAD, () -> x.free(0, 9, 4));
        Check.leaves(x, "free(0, 0, -1)", Check.BAD, () -> x.free(0, 0, -1));
        Check.leaves(x, "free(0, 2, 0)", Check.NONE, () -> x.free(0, 2, 0));
        Check.leaves(x, "free(0, max, 0)", Check.NONE, () -> x.free(0, Integer.MAX_VALUE, 0));
    }

    private static void seen() {
        FrameSheets x = Check.sheet("page 9 7;bleed 1;icon 6 5 2 1 1 2;logo 2 3 1 1 0 1;");
        x.set(0);
        x.set(1);
        Check.due("spot", 0, Check.spot(x, 0));
        Check.due("the logo needs 4 by 5", 5000000 / 100, Check.spot(x, 1));
        Check.tellsToo(x, "seen(0, 1, 1): its first", 0, 201, x.seen(0, 1, 1));
        Check.tellsToo(x, "seen(0, 3, 2): its last", 0, 402, x.seen(0, 3, 2));
        Check.tellsToo(x, "seen(0, 0, 0): edge", 0, 201, x.seen(0, 0, 0));
        Check.tellsToo(x, "seen(0, 4, 3): edge", 0, 402, x.seen(0, 4, 3));
        Check.tellsToo(x, "seen(0, 2, 3): edge below", 0, 302, x.seen(0, 2, 3));
        Check.tellsToo(x, "seen(0, 4, 1): edge on the right", 0, 401, x.seen(0, 4, 1));
        Check.tellsToo(x, "seen(0, 6, 1): a logo's first is untrimmed", 1, 0, x.seen(0, 6, 1));
        Check.tellsToo(x, "seen(0, 7, 3): its last", 1, 102, x.seen(0, 7, 3));
        Check.tellsToo(x, "seen(0, 8, 4): edge", 1, 102, x.seen(0, 8, 4));
        Check.leaves(x, "seen(0, 0, 4)", Check.NONE, () -> x.seen(0, 0, 4));
        Check.leaves(x, "seen(0, 8, 5)", Check.NONE, () -> x.seen(0, 8, 5));
    }

    /** 5 by 2 trimmed with an edge of 1 needs 7 by 4, and on 4 by 8 lies turned. */
    private static FrameSheets turned() {
        FrameSheets x = Check.sheet("page 4 8;border 8 4 1 2 2 0;icon 4 8 0 0 0 0;");
        x.set(1);
        Check.due("set(0)", 1, x.set(0));
        Check.due("turned", 1000001, Check.spot(x, 0));
        return x;
    }

    private static void seenTurned() {
        FrameSheets x = turned();
        Check.tellsToo(x, "seen(1, 1, 1): its first", 0, 102, x.seen(1, 1, 1));
        Check.tellsToo(x, "seen(1, 2, 1): a row across", 0, 103, x.seen(1, 2, 1));
        Check.tellsToo(x, "seen(1, 1, 4): columns down", 0, 402, x.seen(1, 1, 4));
        Check.tellsToo(x, "seen(1, 2, 5): its last", 0, 503, x.seen(1, 2, 5));
        Check.tellsToo(x, "seen(1, 3, 6): edge", 0, 503, x.seen(1, 3, 6));
        Check.tellsToo(x, "seen(1, 0, 3): edge", 0, 302, x.seen(1, 0, 3));
        Check.leaves(x, "seen(1, 3, 7)", Check.NONE, () -> x.seen(1, 3, 7));
        Check.tellsToo(x, "seen(0, 3, 7)", 1, 307, x.seen(0, 3, 7));
    }

    private static void seenRefused() {
        FrameSheets none = new FrameSheets();
        Check.leaves(none, "seen, no sheet", Check.BAD, () -> none.seen(0, 0, 0));
        FrameSheets x = turned();
        Check.leaves(x, "seen(2, 0, 0)", Check.BAD, () -> x.seen(2, 0, 0));
        Check.leaves(x, "seen(-1, 0, 0)", Check.BAD, () -> x.seen(-1, 0, 0));
        Check.leaves(x, "seen(0, 4, 0)", Check.BAD, () -> x.seen(0, 4, 0));
        Check.leaves(x, "seen(0, -1, 0)", Check.BAD, () -> x.seen(0, -1, 0));
        Check.leaves(x, "seen(0, 0, 8)", Check.BAD, () -> x.seen(0, 0, 8));
        Check.leaves(x, "seen(0, 0, -1)", Check.BAD, () -> x.seen(0, 0, -1));
    }

    private static void point() {
        FrameSheets x = Check.sheet("page 9 7;bleed 1;icon 6 5 2 1 1 2;logo 2 3 1 1 0 1;");
        x.set(0);
        x.set(1);
        Check.due("point(0, 2, 1)", 101, x.point(0, 2, 1));
        Check.due("point(0, 4, 2)", 302, x.point(0, 4, 2));
        Check.due("point(0, 1, 1)", Check.NONE, x.point(0, 1, 1));
        Check.due("point(0, 5, 1)", Check.NONE, x.point(0, 5, 1));
        Check.due("point(0, 2, 0)", Check.NONE, x.point(0, 2, 0));
        Check.due("point(0, 2, 3)", Check.NONE, x.point(0, 2, 3));
        Check.due("point(1, 0, 0), a logo's", 601, x.point(1, 0, 0));
        Check.due("point(1, 1, 2), a logo's", 703, x.point(1, 1, 2));
    }

    private static void pointTurned() {
        FrameSheets x = turned();
        Check.due("point(0, 1, 2)", 10101, x.point(0, 1, 2));
        Check.due("point(0, 1, 3)", 10201, x.point(0, 1, 3));
        Check.due("point(0, 5, 2)", 10105, x.point(0, 5, 2));
        Check.due("point(0, 5, 3)", 10205, x.point(0, 5, 3));
        Check.due("point(0, 0, 2)", Check.NONE, x.point(0, 0, 2));
        Check.due("point(0, 6, 2)", Check.NONE, x.point(0, 6, 2));
        Check.due("point(0, 1, 1)", Check.NONE, x.point(0, 1, 1));
    }

    private static void pointRefused() {
        FrameSheets none = new FrameSheets();
        Check.leaves(none, "point, no sheet", Check.BAD, () -> none.point(0, 0, 0));
        FrameSheets x = Check.sheet("page 9 7;icon 6 5 2 1 1 2;");
        Check.leaves(x, "point(1, 0, 0)", Check.BAD, () -> x.point(1, 0, 0));
        Check.leaves(x, "point(-1, 0, 0)", Check.BAD, () -> x.point(-1, 0, 0));
        Check.leaves(x, "point(0, 6, 0)", Check.BAD, () -> x.point(0, 6, 0));
        Check.leaves(x, "point(0, -1, 0)", Check.BAD, () -> x.point(0, -1, 0));
        Check.leaves(x, "point(0, 0, 5)", Check.BAD, () -> x.point(0, 0, 5));
        Check.leaves(x, "point(0, 0, -1)", Check.BAD, () -> x.point(0, 0, -1));
        Check.leaves(x, "point(0, 5, 4), trimmed and not set", Check.STATE, () -> x.point(0, 5, 4));
        x.set(0);
        Check.leaves(x, "point(0, 5, 4)", Check.NONE, () -> x.point(0, 5, 4));
        Check.leaves(x, "point(0, 2, 1) leaves asked()", 0, () -> x.point(0, 2, 1));
    }

    private static void used() {
        FrameSheets none = new FrameSheets();
        Check.leaves(none, "used, no sheet", Check.BAD, () -> none.used(0));
        FrameSheets x = Check.sheet("page 7 5;border 1 3 0 0 0 0;icon 2 2 0 0 0 0;icon 7 5 0 0 0 0;");
        Check.leaves(x, "used(0), no page", Check.BAD, () -> x.used(0));
        x.set(0);
        Check.tellsToo(x, "used(0)", 15, 42, x.used(0));
        x.set(1);
        Check.tellsToo(x, "used(0)", 19, 54, x.used(0));
        x.set(2);
        Check.tellsToo(x, "used(1)", 35, 100, x.used(1));
        Check.due("taken", 54, x.count(7));
        Check.leaves(x, "used(2)", Check.BAD, () -> x.used(2));
        Check.leaves(x, "used(-1)", Check.BAD, () -> x.used(-1));
        x.lift(0);
        x.lift(1);
        Check.tellsToo(x, "used(0), empty", 0, 0, x.used(0));
    }

    private static void takes() {
        FrameSheets none = new FrameSheets();
        Check.leaves(none, "takes, no sheet", Check.BAD, () -> none.takes(0));
        FrameSheets x = Check.sheet("page 7 5;icon 5 4 0 0 0 0;icon 7 1 0 0 0 0;frame 1 7 0 0 0 0;icon 1 7 0 0 0 0;icon 2 5 0 0 0 0;icon 3 2 0 0 0 0;");
        Check.leaves(x, "takes(0), no page", Check.BAD, () -> x.takes(0));
        x.set(0);
        Check.tellsToo(x, "takes(0)", 2 + 4 + 16, 10, x.takes(0));
        x.set(4);
        Check.tellsToo(x, "takes(0)", 0, 5, x.takes(0));
        x.set(5);
        Check.due("icon 5 is on page 1", 1, x.count(2) - 1);
        Check.tellsToo(x, "takes(1)", 2 + 4, 21, x.takes(1));
        Check.leaves(x, "takes(2)", Check.BAD, () -> x.takes(2));
        Check.leaves(x, "takes(-1)", Check.BAD, () -> x.takes(-1));
        FrameSheets y = Check.sheet("page 4 4;icon 4 4 0 0 0 0;icon 1 1 0 0 0 0;");
        y.set(0);
        Check.tellsToo(y, "takes(0), all taken", 0, 0, y.takes(0));
        y.set(1);
        y.lift(0);
        Check.tellsToo(y, "takes(0), empty", 1, 16, y.takes(0));
    }
}
