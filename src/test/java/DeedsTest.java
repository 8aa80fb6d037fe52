/** Promises 16 to 22: frames set, lifted, all set anew, rules, undo, sheets kept. */
public final class DeedsTest {
    private static final String THREE = "page 8 6;frame 3 2 0 0 0 0;icon 2 4 0 0 0 0;border 1 1 0 0 0 0;";

    public static void main(String[] args) {
        setByShort();
        setByEachRule();
        setByNumbers();
        setOfLikeOnes();
        setKinds();
        setOnPages();
        setRefused();
        lift();
        liftPages();
        all();
        allOrders();
        allRefused();
        rule();
        undo();
        keep();
        on();
        full();
        Check.end();
    }

    private static void spotIs(FrameSheets x, int f, int page, int left, int top, int turned) {
        Check.due("spot of " + f, ((page * 100L + left) * 100 + top) * 100 + turned, Check.spot(x, f));
    }

    private static void setByShort() {
        FrameSheets x = Check.sheet("page 8 6;frame 6 3 0 0 0 0;frame 2 5 0 0 0 0;icon 3 3 0 0 0 0;");
        Check.due("set(0)", 0, x.set(0));
        spotIs(x, 0, 0, 0, 0, 1);
        Check.due("set(1)", 0, x.set(1));
        spotIs(x, 1, 0, 3, 0, 1);
        Check.due("set(2)", 0, x.set(2));
        spotIs(x, 2, 0, 3, 2, 0);
    }

    /** One page of 8 by 6 with 5 by 2 at the left above: free are 3 by 6 on the right, 8 by 4 below. */
    private static FrameSheets withCorner(int rule, String second) {
        FrameSheets x = Check.sheet("page 8 6;icon 5 2 0 0 0 0;" + second);
        x.set(0);
        if (rule != 0) x.rule(rule);
        Check.due("set(1) by rule " + rule, 0, x.set(1));
        return x;
    }

    private static void setByEachRule() {
        String tall = "icon 1 4 0 0 0 0;";
        spotIs(withCorner(0, tall), 1, 0, 0, 2, 0);
        spotIs(withCorner(1, tall), 1, 0, 5, 0, 0);
        spotIs(withCorner(2, tall), 1, 0, 5, 0, 0);
        spotIs(withCorner(3, tall), 1, 0, 5, 0, 0);
        String rod = "frame 3 1 0 0 0 0;";
        spotIs(withCorner(0, rod), 1, 0, 5, 0, 0);
        spotIs(withCorner(1, rod), 1, 0, 5, 0, 0);
        spotIs(withCorner(2, rod), 1, 0, 5, 0, 0);
        spotIs(withCorner(3, rod), 1, 0, 5, 0, 1);
    }

    /** Free are 3 by 6 at 5, 0 and 8 by 4 at 0, 2: each rule has a frame that only it sets so. */
    private static void setByNumbers() {
        spotIs(withCorner(0, "icon 2 4 0 0 0 0;"), 1, 0, 0, 2, 0);
        spotIs(withCorner(1, "icon 2 4 0 0 0 0;"), 1, 0, 5, 0, 0);
        spotIs(withCorner(2, "frame 2 4 0 0 0 0;"), 1, 0, 0, 2, 1);
        spotIs(withCorner(3, "frame 2 4 0 0 0 0;"), 1, 0, 5, 0, 0);
    }

    private static void setOfLikeOnes() {
        FrameSheets x = Check.sheet("page 4 4;frame 3 2 0 0 0 0;");
        x.set(0);
        spotIs(x, 0, 0, 0, 0, 0);
        FrameSheets y = Check.sheet("page 5 5;icon 2 2 0 0 0 0;icon 1 1 0 0 0 0;");
        y.set(0);
        y.set(1);
        spotIs(y, 1, 0, 2, 0, 0);
        FrameSheets z = Check.sheet("page 6 6;frame 3 3 0 0 0 0;frame 2 2 0 0 0 0;");
        z.set(0);
        z.set(1);
        spotIs(z, 1, 0, 3, 0, 0);
    }

    private static void setKinds() {
        FrameSheets x = Check.sheet("page 6 4;icon 1 5 0 0 0 0;logo 1 5 0 0 0 4;frame 1 5 0 0 0 0;border 1 4 0 0 0 0;");
        Check.leaves(x, "an icon is not turned", Check.SPENT, () -> x.set(0));
        Check.leaves(x, "a logo neither, nor trimmed", Check.SPENT, () -> x.set(1));
        Check.due("a frame is", 0, x.set(2));
        spotIs(x, 2, 0, 0, 0, 1);
        Check.due("a border, too", 0, x.set(3));
        spotIs(x, 3, 0, 0, 1, 1);
        Check.due("pages", 1, x.count(2));
    }

    private static void setOnPages() {
        FrameSheets x = Check.sheet("page 4 4;icon 4 4 0 0 0 0;icon 3 4 0 0 0 0;icon 4 3 0 0 0 0;icon 1 4 0 0 0 0;icon 4 1 0 0 0 0;");
        for (int f = 0; f < 3; f++) Check.due("set(" + f + ")", f, x.set(f));
        Check.due("set(4)", 2, x.set(4));
        Check.due("set(3)", 1, x.set(3));
        spotIs(x, 4, 2, 0, 3, 0);
        spotIs(x, 3, 1, 3, 0, 0);
        Check.due("pages", 3, x.count(2));
        x.lift(0);
        x.lift(3);
        Check.due("an empty page ahead is first", 0, x.set(3));
    }

    private static void setRefused() {
        FrameSheets none = new FrameSheets();
        Check.leaves(none, "set(0), no sheet", Check.BAD, () -> none.set(0));
        FrameSheets x = Check.sheet("page 4 4;frame 5 5 0 0 0 0;icon 2 2 0 0 0 0;");
        Check.leaves(x, "set(-1)", Check.BAD, () -> x.set(-1));
        Check.leaves(x, "set(2)", Check.BAD, () -> x.set(2));
        Check.leaves(x, "set(0)", Check.SPENT, () -> x.set(0));
        Check.due("set(1)", 0, x.set(1));
        Check.leaves(x, "set(1) again", Check.STATE, () -> x.set(1));
        Check.due("deeds", 1, x.count(10));
    }

    private static void lift() {
        FrameSheets none = new FrameSheets();
        Check.leaves(none, "lift(0), no sheet", Check.BAD, () -> none.lift(0));
        FrameSheets x = Check.sheet(THREE);
        Check.leaves(x, "lift(3)", Check.BAD, () -> x.lift(3));
        Check.leaves(x, "lift(-1)", Check.BAD, () -> x.lift(-1));
        Check.leaves(x, "lift(0)", Check.STATE, () -> x.lift(0));
        for (int f = 0; f < 3; f++) x.set(f);
        int second = Check.spot(x, 1);
        int third = Check.spot(x, 2);
        Check.due("lift(0)", 1, x.lift(0));
        Check.due("spot", Check.NONE, Check.spot(x, 0));
        Check.due("others stay", second, Check.spot(x, 1));
        Check.due("others stay", third, Check.spot(x, 2));
        Check.leaves(x, "lift(0) again", Check.STATE, () -> x.lift(0));
        Check.due("deeds", 4, x.count(10));
        Check.due("taken", 8 + 9, x.count(7));
    }

    private static void liftPages() {
        FrameSheets x = Check.sheet("page 4 4;" + "icon 4 4 0 0 0 0;".repeat(4));
        for (int f = 0; f < 4; f++) x.set(f);
        Check.due("lift(1)", 4, x.lift(1));
        Check.due("used(1)", 0, x.used(1));
        Check.due("lift(3)", 3, x.lift(3));
        Check.due("lift(2): page 1 is empty as well", 1, x.lift(2));
        Check.due("lift(0)", 0, x.lift(0));
    }

    private static void all() {
        FrameSheets x = Check.sheet("page 4 4;icon 2 2 0 0 0 0;icon 5 1 0 0 0 0;icon 4 4 0 0 0 0;icon 4 2 0 0 0 0;");
        x.set(3);
        Check.due("all(0)", 3 - 1, x.all(0));
        spotIs(x, 0, 0, 0, 0, 0);
        Check.due("one without room", Check.NONE, Check.spot(x, 1));
        spotIs(x, 2, 1, 0, 0, 0);
        spotIs(x, 3, 0, 0, 2, 0);
        Check.due("deeds", 2, x.count(10));
        Check.due("all(1)", 2, x.all(1));
        spotIs(x, 2, 0, 0, 0, 0);
        spotIs(x, 3, 1, 0, 0, 0);
        spotIs(x, 0, 1, 0, 2, 0);
    }

    private static void allOrders() {
        FrameSheets x = Check.sheet("page 16 4;icon 1 1 0 0 0 0;icon 6 1 0 0 0 0;icon 3 3 0 0 0 0;icon 1 1 0 0 0 0;icon 3 3 0 0 0 0;");
        x.rule(2);
        x.all(0);
        spotIs(x, 0, 0, 0, 0, 0);
        spotIs(x, 1, 0, 1, 0, 0);
        spotIs(x, 2, 0, 7, 0, 0);
        x.all(1);
        spotIs(x, 2, 0, 0, 0, 0);
        spotIs(x, 4, 0, 3, 0, 0);
        spotIs(x, 1, 0, 6, 0, 0);
        spotIs(x, 0, 0, 12, 0, 0);
        spotIs(x, 3, 0, 13, 0, 0);
        x.all(2);
        spotIs(x, 1, 0, 0, 0, 0);
        spotIs(x, 2, 0, 6, 0, 0);
        spotIs(x, 4, 0, 9, 0, 0);
        spotIs(x, 0, 0, 12, 0, 0);
        spotIs(x, 3, 0, 13, 0, 0);
        Check.due("rule stays", 2, x.count(6));
        FrameSheets y = Check.sheet("page 16 16;icon 5 1 0 0 0 0;border 2 2 0 0 0 0;frame 1 6 0 0 0 0;");
        y.rule(2);
        y.all(1);
        spotIs(y, 1, 0, 0, 0, 0);
        y.all(2);
        spotIs(y, 2, 0, 0, 0, 1);
    }

    private static void allRefused() {
        FrameSheets none = new FrameSheets();
        Check.leaves(none, "all(0), no sheet", Check.BAD, () -> none.all(0));
        FrameSheets x = Check.sheet(THREE);
        Check.leaves(x, "all(3)", Check.BAD, () -> x.all(3));
        Check.leaves(x, "all(-1)", Check.BAD, () -> x.all(-1));
        FrameSheets y = Check.sheet("page 4 4;icon 5 5 0 0 0 0;");
        Check.due("all(0) of none", 0, y.all(0));
        Check.due("deeds", 1, y.count(10));
    }

    private static void rule() {
        FrameSheets none = new FrameSheets();
        Check.leaves(none, "rule(4), no sheet", Check.BAD, () -> none.rule(4));
        Check.leaves(none, "rule(1), no sheet", Check.STATE, () -> none.rule(1));
        Check.leaves(none, "rule(0), no sheet", Check.STATE, () -> none.rule(0));
        FrameSheets x = Check.sheet(THREE);
        Check.leaves(x, "rule(4)", Check.BAD, () -> x.rule(4));
        Check.leaves(x, "rule(-1)", Check.BAD, () -> x.rule(-1));
        Check.leaves(x, "rule(0)", Check.STATE, () -> x.rule(0));
        x.set(0);
        int spot = Check.spot(x, 0);
        Check.due("rule(3)", 0, x.rule(3));
        Check.due("rule(1)", 3, x.rule(1));
        Check.due("rule(2)", 1, x.rule(2));
        Check.leaves(x, "rule(2)", Check.STATE, () -> x.rule(2));
        Check.due("rule", 2, x.count(6));
        Check.due("deeds", 4, x.count(10));
        Check.due("what is set stays", spot, Check.spot(x, 0));
    }

    private static void undo() {
        FrameSheets none = new FrameSheets();
        Check.leaves(none, "undo(0), no sheet", 0, () -> none.undo(0));
        Check.leaves(none, "undo(1), no sheet", Check.BAD, () -> none.undo(1));
        FrameSheets x = Check.sheet(THREE);
        long[] digests = new long[7];
        digests[0] = x.digest();
        x.set(0);
        digests[1] = x.digest();
        x.rule(2);
        digests[2] = x.digest();
        x.set(2);
        digests[3] = x.digest();
        x.lift(0);
        digests[4] = x.digest();
        x.all(1);
        digests[5] = x.digest();
        Check.leaves(x, "undo(6)", Check.BAD, () -> x.undo(6));
        Check.leaves(x, "undo(-1)", Check.BAD, () -> x.undo(-1));
        Check.leaves(x, "undo(5)", 0, () -> x.undo(5));
        Check.due("undo(4)", 1, x.undo(4));
        Check.due("as it was", digests[4], x.digest());
        Check.due("undo(3)", 1, x.undo(3));
        Check.due("as it was", digests[3], x.digest());
        Check.leaves(x, "undo(4)", Check.BAD, () -> x.undo(4));
        Check.due("undo(1)", 2, x.undo(1));
        Check.due("as it was", digests[1], x.digest());
        x.rule(2);
        Check.due("done again", digests[2], x.digest());
        Check.due("undo(0)", 2, x.undo(0));
        Check.due("as it was", digests[0], x.digest());
    }

    private static void keep() {
        FrameSheets none = new FrameSheets();
        Check.leaves(none, "keep(3), no sheet", Check.BAD, () -> none.keep(3));
        Check.leaves(none, "keep(0), no sheet", Check.STATE, () -> none.keep(0));
        FrameSheets x = Check.sheet(THREE);
        Check.leaves(x, "keep(3)", Check.BAD, () -> x.keep(3));
        Check.leaves(x, "keep(-1)", Check.BAD, () -> x.keep(-1));
        Check.due("keep(2)", 0, x.keep(2));
        x.set(0);
        Check.due("keep(0)", 1, x.keep(0));
        Check.due("kept", 2, x.count(13));
        x.set(1);
        Check.due("keep(0) again", 2, x.keep(0));
        Check.due("kept", 2, x.count(13));
        Check.due("deeds", 2, x.count(10));
    }

    private static void on() {
        FrameSheets x = Check.sheet(THREE);
        Check.leaves(x, "on(3)", Check.BAD, () -> x.on(3));
        Check.leaves(x, "on(-1)", Check.BAD, () -> x.on(-1));
        Check.finds(x, "on(0)", Check.NOTHING, () -> x.on(0));
        x.set(1);
        long one = x.digest();
        x.undo(0);
        x.set(1);
        x.rule(3);
        x.set(0);
        x.keep(0);
        long kept = x.digest();
        x.undo(1);
        x.rule(1);
        x.all(2);
        x.lift(1);
        x.set(1);
        x.keep(1);
        Check.due("on(0)", 3, x.on(0));
        Check.due("kept", 2, x.count(13));
        Check.due("on(1)", 5, x.on(1));
        Check.due("rule", 1, x.count(6));
        x.undo(0);
        Check.due("on(0) again", 3, x.on(0));
        Check.due("rule", 3, x.count(6));
        Check.due("set", 2, x.count(1));
        Check.due("its own deeds are undone", 2, x.undo(1));
        Check.due("rule", 0, x.count(6));
        Check.due("set", 1, x.count(1));
        Check.due("what is undone stays kept", 3, x.on(0));
        x.lift(0);
        Check.due("what goes on leaves it kept", 3, x.on(0));
        Check.due("set", 2, x.count(1));
        Check.due("two states differ", 1, one != kept ? 1 : 0);
    }

    private static void full() {
        FrameSheets x = Check.sheet("page 4 4;icon 2 2 0 0 0 0;icon 5 5 0 0 0 0;icon 1 1 0 0 0 0;");
        x.set(0);
        for (int i = 1; i < 40; i++) Check.due("rule, deed " + i, (i - 1) % 4, x.rule(i % 4));
        Check.due("deeds", 40, x.count(10));
        Check.leaves(x, "set(3), full", Check.BAD, () -> x.set(3));
        Check.leaves(x, "set(0), full", Check.STATE, () -> x.set(0));
        Check.leaves(x, "set(1), full", Check.SPENT, () -> x.set(1));
        Check.leaves(x, "set(2), full", Check.FULL, () -> x.set(2));
        Check.leaves(x, "lift(3), full", Check.BAD, () -> x.lift(3));
        Check.leaves(x, "lift(2), full", Check.STATE, () -> x.lift(2));
        Check.leaves(x, "lift(0), full", Check.FULL, () -> x.lift(0));
        Check.leaves(x, "all(3), full", Check.BAD, () -> x.all(3));
        Check.leaves(x, "all(0), full", Check.FULL, () -> x.all(0));
        Check.leaves(x, "rule(4), full", Check.BAD, () -> x.rule(4));
        Check.leaves(x, "rule(3), full", Check.STATE, () -> x.rule(3));
        Check.leaves(x, "rule(0), full", Check.FULL, () -> x.rule(0));
        Check.due("keep(0), full", 40, x.keep(0));
        Check.due("undo(39)", 1, x.undo(39));
        Check.due("all(0)", 1, x.all(0));
        Check.leaves(x, "all(0), full", Check.FULL, () -> x.all(0));
        Check.due("on(0), full", 40, x.on(0));
        Check.due("undo(0)", 40, x.undo(0));
        Check.due("set", 0, x.count(1));
        Check.due("rule", 0, x.count(6));
    }
}
