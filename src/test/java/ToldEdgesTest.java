/** Boundary cases of promises 31 to 35 and of refusals, sentence by sentence: what is told. */
public final class ToldEdgesTest {
    private static final int MAX = Scene.MAX, MIN = Scene.MIN;
    private static final int BAD = Check.BAD, FULL = Check.FULL, STATE = Check.STATE, SPENT = Check.SPENT, NONE = Check.NONE;
    private static final String THREE = "page 4 4;icon 2 2 0 0 0 0;icon 5 5 0 0 0 0;icon 1 1 0 0 0 0;";

    public static void main(String[] args) {
        constants();
        refusedInOrder();
        findingsHaveNumbers();
        askedBefore();
        askedByThese();
        askedByNoOthers();
        askedNotByRefused();
        countWhat();
        countOfNone();
        countOfSheets();
        countOfPages();
        countOfKept();
        finding();
        findings();
        findingsRefused();
        digestOfMissing();
        digestOfAll();
        digestWraps();
        lastCall();
        Check.end();
    }

    // ---- refusals

    private static void constants() {
        Check.about("Terms: BAD -1, FULL -2, STATE -4, SPENT -6, FINDING -3, NONE -9");
        Check.due("BAD", -1, FrameSheets.BAD);
        Check.due("FULL", -2, FrameSheets.FULL);
        Check.due("STATE", -4, FrameSheets.STATE);
        Check.due("SPENT", -6, FrameSheets.SPENT);
        Check.due("FINDING", -3, FrameSheets.FINDING);
        Check.due("NONE", -9, FrameSheets.NONE);
    }

    /** Each row fits more than one refusal; the first one is answered. */
    private static void refusedInOrder() {
        Check.about("Terms: Refused is, the first of these that fits, in this order: BAD, FULL, STATE, SPENT, FINDING");
        Scene busy = Scene.busy();
        busy.refuses(BAD, "row", 6, -1);
        busy.refuses(BAD, "lay", 6, -1, 0);
        busy.refuses(BAD, "at", -1, -1);
        busy.refuses(BAD, "copy", 6, -1, 0, 0, -1);
        busy.refuses(BAD, "copy", 3, -1, 6, 0, 0);
        busy.refuses(BAD, "text", 4, -1);
        busy.refuses(BAD, "put", 4, -1, 0);
        busy.refuses(BAD, "mark", 0, 4);
        busy.refuses(BAD, "mark", 5, 1);
        busy.refuses(BAD, "on", 3);
        busy.refuses(BAD, "place", 0, 4);
        busy.refuses(BAD, "point", 0, 3, 0);
        busy.refuses(BAD, "free", 0, 99, 4);
        Scene none = Scene.bare();
        none.refuses(BAD, "write", 4);
        none.refuses(BAD, "rule", 4);
        none.refuses(BAD, "keep", 3);
        none.refuses(BAD, "lots", 0, 1);
        none.refuses(BAD, "lots", 1, 0);
        Scene full = Scene.sheet(THREE).deeds(40);
        full.refuses(BAD, "all", 3);
        full.refuses(BAD, "set", 3);
        full.refuses(BAD, "lots", 21, 1);
        Check.about("Terms: unless a call says so otherwise (FULL last; STATE behind NOTHING; NONE last)");
        full.refuses(SPENT, "set", 1);
        full.refuses(STATE, "lift", 0);
        full.refuses(STATE, "rule", 40 % 4);
        full.refuses(FULL, "lots", 1, 1);
        full.finds(Check.NOTHING, "sheet", 1);
        full.refuses(STATE, "point", 0, 1, 1);
    }

    private static void findingsHaveNumbers() {
        Check.about("Terms: FINDINGS: 1 NOTHING, 2 BEYOND, 3 UNLIKE, 4 NOUGHT, 5 SIZE");
        Scene s = Scene.busy();
        s.finds(1, "at", 3, 0);
        s.finds(1, "fault", 3);
        s.finds(1, "on", 2);
        s.finds(2, "at", 0, 3);
        s.finds(2, "put", 1, 10, 0);
        s.finds(3, "mark", 0, 1);
        s.finds(4, "mean", 1);
        s.finds(5, "row", 0, -1);
        s.finds(5, "text", 0, -1);
        s.finds(5, "copy", 0, 0, 0, 0, -1);
    }

    // ---- 31

    private static void askedBefore() {
        Check.about("31: 0 before");
        Scene.bare().answers(0, "asked");
        Scene.bare().call("at", 0, 0).call("row", 0, 5).call("at", 0, 5).answers(0, "asked");
        Scene.busy().call("sheet", 0).answers(5, "asked");
    }

    /** A SHEET with one FRAME SET and one that is not, and asked() 77. */
    private static Scene told() {
        return Scene.sheet("page 5 4;bleed 1;frame 3 2 1 0 0 0;icon 4 4 0 0 0 0;logo 2 1 1 0 0 0;")
                .call("set", 0).row(1, 6, 9).row(2).row(0, 77).call("at", 0, 0);
    }

    private static void askedByThese() {
        Check.about("31: What the latest lay(), at(), mean(), frame(), place(), free(), seen(), used(), takes(), would(), best() told");
        Scene s = told();
        s.answers(77, "asked");
        s.tells(1, 6, "lay", 1, 0, 3);
        s.tells(1, 9, "at", 1, 1);
        s.tells(1, 7, "mean", 1);
        s.tells(1, 4, "frame", 0, 4);
        s.tells(1, 0, "place", 0, 1);
        s.tells(1, 1, "free", 0, 0, 2);
        s.tells(0, 201, "seen", 0, 3, 3);
        s.tells(16, 80, "used", 0);
        s.tells(0, 4, "takes", 0);
        s.tells(2, 2, "would", 1, 1);
        s.tells(0, 2, "best");
        s.copy().call("used", 0).call("at", 1, 1).answers(9, "asked");
        s.copy().call("at", 1, 1).call("used", 0).answers(80, "asked");
        s.copy().call("asked").answers(77, "asked");
    }

    private static void askedByNoOthers() {
        Check.about("31: of no other call");
        Object[][] calls = {
            {"row", 3, 4}, {"tear", 1}, {"copy", 1, 0, 0, 0, 1}, {"text", 3, 2}, {"put", 0, 0, 9}, {"fault", 0}, {"sheet", 0},
            {"write", 1}, {"mark", 1, 1}, {"mark", 2, 3}, {"set", 2}, {"lift", 0}, {"all", 1}, {"rule", 2}, {"undo", 0}, {"keep", 1},
            {"point", 0, 1, 0}, {"lots", 5, 3}, {"count", 7}, {"finding"}, {"findings", 1}, {"digest"}, {"asked"},
        };
        for (Object[] call : calls) {
            int[] a = new int[call.length - 1];
            for (int i = 0; i < a.length; i++) a[i] = (Integer) call[i + 1];
            told().call((String) call[0], a).answers(77, "asked");
        }
        told().call("keep", 0).call("lift", 0).call("on", 0).answers(77, "asked");
    }

    private static void askedNotByRefused() {
        Check.about("31: that was not refused");
        Scene s = told();
        s.refuses(BAD, "lay", 6, 0, 1);
        s.finds(Check.NOTHING, "lay", 3, 0, 1);
        s.finds(Check.BEYOND, "lay", 1, 2, 1);
        s.refuses(BAD, "at", 6, 0);
        s.finds(Check.NOTHING, "at", 3, 0);
        s.finds(Check.BEYOND, "at", 1, 2);
        s.refuses(BAD, "mean", 6);
        s.finds(Check.NOTHING, "mean", 3);
        s.finds(Check.NOUGHT, "mean", 2);
        s.refuses(BAD, "frame", 3, 0);
        s.refuses(BAD, "place", 0, 4);
        s.refuses(BAD, "free", 0, -1, 0);
        s.refuses(BAD, "seen", 0, 5, 0);
        s.refuses(BAD, "used", 1);
        s.refuses(BAD, "takes", 1);
        s.refuses(BAD, "would", 4, 0);
        Scene.bare().row(0, 77).call("at", 0, 0).refuses(STATE, "best");
        Check.about("31: (nor answered NONE)");
        s.refuses(NONE, "place", 1, 0);
        s.refuses(NONE, "free", 0, 1, 0);
        s.refuses(NONE, "seen", 0, 4, 0);
        s.refuses(NONE, "fault", 0);
        s.refuses(NONE, "point", 0, 0, 0);
    }

    // ---- 32

    private static void countWhat() {
        Check.about("32: BAD");
        for (Scene s : new Scene[] {Scene.bare(), Scene.busy()}) for (int what : new int[] {-1, 14, 15, MIN, MAX}) s.refuses(BAD, "count", what);
        for (int what = 0; what < 14; what++) told().refuses(told().play().count(what), "count", what);
    }

    private static void counts(Scene s, int... want) {
        for (int what = 0; what < 14; what++) s.answers(want[what], "count", what);
    }

    private static void countOfNone() {
        Check.about("32: without a SHEET");
        counts(Scene.bare(), 0, 0, 0, 0, 0, 0, 0, 0, 0, 0, 0, 0, 0, 0);
        counts(Scene.bare().row(0).row(5, 1).text(3, ""), 0, 0, 0, 0, 0, 0, 0, 0, 0, 0, 0, 2, 1, 0);
        counts(Scene.bare().text(0, "page 4 4;bleed 1;").call("sheet", 0), 0, 0, 0, 0, 0, 0, 0, 0, 0, 0, 0, 0, 1, 0);
    }

    private static void countOfSheets() {
        Check.about("32: 0 FRAMES, 1 those that are SET, 2 PAGES, 3 WIDE, 4 HIGH, 5 BLEED, 6 the RULE, 9 TURNED ones, 10 DEEDS");
        Scene s = Scene.sheet("page 16 4;bleed 2;frame 1 12 0 0 0 0;frame 1 11 0 0 0 0;icon 12 1 0 0 0 0;");
        counts(s, 3, 0, 0, 16, 4, 2, 0, 0, 0, 0, 0, 0, 1, 0);
        Scene t = Scene.sheet("page 16 5;bleed 2;frame 1 12 0 0 0 0;frame 1 11 0 0 0 0;icon 12 1 0 0 0 0;");
        t.call("set", 0);
        counts(t, 3, 1, 1, 16, 5, 2, 0, 80, 0, 1, 1, 0, 1, 0);
        t.call("set", 1);
        counts(t, 3, 2, 2, 16, 5, 2, 0, 155, 1, 2, 2, 0, 1, 0);
        t.call("set", 2).call("rule", 3);
        counts(t, 3, 3, 3, 16, 5, 2, 3, 235, 1, 2, 4, 0, 1, 0);
        t.call("lift", 0);
        counts(t, 3, 2, 3, 16, 5, 2, 3, 155, 2, 1, 5, 0, 1, 0);
        Scene seven = Scene.sheet("page4 4;" + "icon4 4 0 0 0 0;".repeat(7)).call("all", 0);
        counts(seven, 7, 7, 7, 4, 4, 0, 0, 112, 0, 0, 1, 0, 1, 0);
    }

    private static void countOfPages() {
        Check.about("32: 7 places taken on all PAGES, 8 FREE rectangles of all PAGES (an empty one ahead, too)");
        Scene s = Scene.sheet("page 5 4;icon 5 4 0 0 0 0;icon 4 3 0 0 0 0;icon 5 4 0 0 0 0;icon 2 2 0 0 0 0;");
        for (int f = 0; f < 4; f++) s.call("set", f);
        s.answers(20 + 12 + 20 + 4, "count", 7);
        s.answers(0 + 2 + 0 + 2, "count", 8);
        Scene less = s.copy().call("lift", 0);
        less.answers(12 + 20 + 4, "count", 7);
        less.answers(1 + 2 + 0 + 2, "count", 8);
        less.call("lift", 3).answers(1 + 2 + 0, "count", 8);
        less.call("lift", 2).answers(1 + 2, "count", 8);
        less.call("lift", 1).answers(0, "count", 8);
        less.answers(0, "count", 7);
    }

    private static void countOfKept() {
        Check.about("32: 11 ROWS, 12 TEXTS that are there, 13 kept SHEETS");
        Scene s = Scene.sheet(THREE);
        for (int r = 0; r < 6; r++) s.gives(0, "row", r, 0).answers(r + 1, "count", 11);
        s.copy().call("row", 0, 40).answers(6, "count", 11);
        for (int r = 0; r < 6; r++) s.gives(1, "tear", r).answers(5 - r, "count", 11);
        for (int t = 1; t < 4; t++) s.gives(0, "text", t, 0).answers(t + 1, "count", 12);
        for (int k = 0; k < 3; k++) s.gives(0, "keep", k).answers(k + 1, "count", 13);
        s.copy().call("keep", 2).answers(3, "count", 13);
        s.copy().call("on", 2).answers(3, "count", 13);
        s.copy().call("sheet", 0).answers(0, "count", 13);
    }

    // ---- 33, 34

    private static void finding() {
        Check.about("33: The latest FINDING (0 before any)");
        Scene s = Scene.bare();
        s.answers(0, "finding");
        s.call("at", 6, 0).call("keep", 0).call("rule", 1).call("count", 14).answers(0, "finding");
        s.call("row", 0, -1).answers(5, "finding");
        s.call("at", 0, 0).answers(1, "finding");
        s.call("row", 0, 0).call("mean", 0).answers(4, "finding");
        s.call("at", 0, 0).answers(2, "finding");
        s.text(0, THREE).call("sheet", 0).call("mark", 0, 2).answers(3, "finding");
        s.call("set", 0).call("set", 0).call("set", 1).call("at", 9, 9).call("place", 2, 0).call("finding").answers(3, "finding");
        s.call("sheet", 0).answers(3, "finding");
    }

    private static void findings() {
        Check.about("34: How often a FINDING (1 .. 5) was answered");
        Scene s = Scene.sheet(THREE).row(0);
        String[] calls = {"tear", "at", "mark", "mean", "row"};
        int[][] args = {{3}, {0, 0}, {0, 2}, {0}, {0, -1}};
        for (int f = 1; f <= 5; f++) s.answers(0, "findings", f);
        for (int f = 1; f <= 5; f++) {
            for (int i = 0; i < f; i++) {
                s.answers(i, "findings", f);
                s.call(calls[f - 1], args[f - 1]);
                s.answers(i + 1, "findings", f);
                s.answers(f, "finding");
            }
        }
        for (int f = 1; f <= 5; f++) s.answers(f, "findings", f);
        s.call("sheet", 0).call("undo", 0).call("at", 6, 0).call("set", 1);
        for (int f = 1; f <= 5; f++) s.answers(f, "findings", f);
        Scene.bare().times(400, "tear", 0).answers(400, "findings", 1);
    }

    private static void findingsRefused() {
        Check.about("34: BAD");
        for (int f : new int[] {0, -1, 6, 7, MIN, MAX}) Scene.busy().refuses(BAD, "findings", f);
        for (int f = 1; f <= 5; f++) Scene.bare().refuses(0, "findings", f);
    }

    // ---- 35

    private static final class Sum {
        long h = 17;

        void add(long v) {
            h = 31 * h + v;
        }
    }

    /** The digest by the words of the promise, from what the other calls answer. */
    private static long digestOf(Scene s) {
        Sum sum = new Sum();
        FrameSheets x = s.play();
        for (int what = 0; what < 14; what++) sum.add(x.count(what));
        for (int f = 0; f < x.count(0); f++) {
            for (int what = 0; what < 5; what++) {
                x.frame(f, what);
                sum.add(x.asked());
            }
            if (x.place(f, 0) == NONE) sum.add(-1);
            else for (int what = 0; what < 4; what++) {
                x.place(f, what);
                sum.add(x.asked());
            }
        }
        for (int k = 0; k < 3; k++) {
            int deeds = s.play().on(k);
            sum.add(deeds == Check.FINDING ? -1 : deeds);
        }
        for (int r = 0; r < 6; r++) addRow(sum, s.play(), r);
        for (int t = 0; t < 4; t++) addText(sum, s.play(), t);
        return sum.h;
    }

    private static void addRow(Sum sum, FrameSheets x, int r) {
        int size = 0;
        while (x.at(r, size) == 1) size++;
        sum.add(x.finding() == Check.NOTHING ? -1 : size);
        for (int i = 0; i < size; i++) {
            x.at(r, i);
            sum.add(x.asked());
        }
    }

    private static void addText(Sum sum, FrameSheets x, int t) {
        int[] bytes = new int[121];
        int size = 0;
        while (true) {
            int was = x.put(t, size, 0);
            if (was == Check.FINDING) break;
            bytes[size++] = was - 1000;
        }
        sum.add(x.finding() == Check.NOTHING ? -1 : size);
        for (int i = 0; i < size; i++) sum.add(bytes[i]);
    }

    private static void digestIs(Scene s) {
        s.answers(digestOf(s), "digest");
        s.changesNothing("digest");
        s.refuses(s.play().count(0), "count", 0);
    }

    private static void digestOfMissing() {
        Check.about("35: (-1: missing), and a size of 0");
        digestIs(Scene.bare());
        for (int r = 0; r < 6; r++) {
            digestIs(Scene.bare().row(r));
            digestIs(Scene.bare().row(r).call("tear", r));
        }
        for (int t = 0; t < 4; t++) digestIs(Scene.bare().text(t, ""));
        for (int k = 0; k < 3; k++) {
            digestIs(Scene.sheet(THREE).call("keep", k));
            digestIs(Scene.sheet(THREE).call("set", 0).call("keep", k).call("undo", 0));
        }
    }

    private static void digestOfAll() {
        Check.about("35: then h = 31 h + v for each v: count(), frame(), place() (of one that is not SET -1 once), kept SHEETS, ROWS, TEXTS");
        digestIs(Scene.busy());
        digestIs(told());
        digestIs(Scene.sheet("page4 4;" + "icon4 4 0 0 0 0;".repeat(7)).call("all", 2).call("keep", 1));
        digestIs(Scene.sheet("page4 4;" + "icon5 5 0 0 0 0;".repeat(7)).call("all", 2).deeds(40).call("keep", 2));
        digestIs(Scene.sheet("page 5 4;frame 4 5 0 0 0 0;border 2 3 0 0 0 0;").call("all", 0));
        digestIs(Scene.bare().row(0, 5, 6).call("row", 0, 1));
        digestIs(Scene.bare().text(0, "abc").call("text", 0, 1));
        digestIs(Scene.sheet(THREE).call("write", 3));
    }

    private static void digestWraps() {
        Check.about("35: with the least and the greatest ints, with all bytes, and wherever h wraps around");
        digestIs(Scene.bare().row(0, MIN, MAX, -1, 0, 1).row(5, MAX));
        Scene forty = Scene.bare().call("row", 3, 40);
        for (int i = 0; i < 40; i++) forty.call("lay", 3, i, i % 2 == 0 ? MIN + i : MAX - i);
        digestIs(forty);
        Scene bytes = Scene.bare().call("text", 0, 120).call("text", 3, 120);
        for (int i = 0; i < 120; i++) bytes.call("put", 0, i, i).call("put", 3, i, 120 + i);
        digestIs(bytes);
        digestIs(Scene.bare().call("text", 1, 2).call("put", 1, 0, 255).call("put", 1, 1, 128));
    }

    // ---- what it is

    private static void lastCall() {
        Check.about("An object is used for at most 512 calls: the 512th is answered as well");
        Scene s = Scene.busy();
        Scene few = s.copy().call("lay", 0, 0, 1234).call("lay", 0, 0, 1234);
        s.times(510 - s.length(), "lay", 0, 0, 1234);
        s.copy().call("at", 0, 2).answers(9, "asked");
        s.call("lay", 0, 0, 1234);
        Check.due("calls ahead of the last one", 511, s.length());
        s.answers(1234, "asked");
        s.answers(digestOf(few), "digest");
        s.answers(1, "at", 0, 0);
        s.answers(4, "would", 0, 0);
        s.answers(4, "all", 0);
        s.answers(5, "undo", 2);
        s.answers(3, "on", 0);
        s.answers(Check.FINDING, "on", 2);
        s.answers(Check.NONE, "place", 4, 0);
    }
}
