/** Promises 10 to 15: faults of texts, sheets by texts and written out, what frames tell. */
public final class TextsTest {
    private static final String ONE = "page 4 4;frame 1 1 0 0 0 0;";

    public static void main(String[] args) {
        noFault();
        faults();
        faultRefused();
        sheet();
        sheetAnew();
        write();
        writeRefused();
        frame();
        place();
        mark();
        Check.end();
    }

    private static void faultIs(int want, String text) {
        FrameSheets x = new FrameSheets();
        Check.lay(x, 2, text);
        Check.due("fault of '" + text + "'", want, x.fault(2));
        if (want != Check.NONE) Check.leaves(x, "sheet of '" + text + "'", Check.STATE, () -> x.sheet(2));
    }

    private static void noFault() {
        faultIs(Check.NONE, ONE);
        faultIs(Check.NONE, "   page  16  16 ;  bleed 2 ;  frame 16 16 9 9 6 6  ;   ");
        faultIs(Check.NONE, "page4 4;icon1 1 0 0 0 0;border16 16 0 0 0 0;logo3 3 1 1 1 1;frame2 2 1 1 0 0;");
        faultIs(Check.NONE, "page 0004 00000000000000000000000000000016;frame 01 1 0 0 0 0;");
        faultIs(Check.NONE, "page 4 4;frame 1 1 0 0 0 0;bleed 0;");
        faultIs(Check.NONE, tight(7));
    }

    private static void faults() {
        faultIs(0, "");
        faultIs(3, "   ");
        faultIs(9, "page 4 4;");
        faultIs(12, "page 4 4;   ");
        faultIs(8, "page 4 4");
        faultIs(10, "page 4 4  ");
        faultIs(4, "page");
        faultIs(0, "pag 4 4;");
        faultIs(0, "pages 4 4;");
        faultIs(0, "pagez 4 4;");
        faultIs(0, "pagea 4 4;");
        faultIs(4, "page{ 4 4;");
        faultIs(4, "page` 4 4;");
        faultIs(6, "page 4/ 4;");
        faultIs(6, "page 4: 4;");
        faultIs(0, "Page 4 4;");
        faultIs(0, "bleed 1;" + ONE);
        faultIs(0, ONE.substring(9));
        faultIs(0, ";" + ONE);
        faultIs(0, "4 4;");
        faultIs(1, " @page 4 4;");
        faultIs(5, "page 3 4;");
        faultIs(5, "page 17 4;");
        faultIs(5, "page 99999999999999999999 4;");
        faultIs(5, "page 4294967300 4;");
        faultIs(7, "page 4 3;");
        faultIs(7, "page 4 17;");
        faultIs(5, "page ;");
        faultIs(5, "page x 4;");
        faultIs(7, "page 4 ;");
        faultIs(9, "page 4 4 4;");
        faultIs(9, "page 4 4;page 4 4;");
        faultIs(27, ONE + "page 4 4;");
        faultIs(9, "page 4 4;;" + ONE);
        faultIs(9, "page 4 4;5;");
        faultIs(9, "page 4 4;picture 1 1 0 0 0 0;");
        faultIs(15, "page 4 4;bleed 3;" + ONE.substring(9));
        faultIs(17, "page 4 4;bleed 1;bleed 1;");
        faultIs(17, "page 4 4;bleed 0;bleed 0;" + ONE.substring(9));
        faultIs(35, ONE + "bleed 0;bleed 1;");
        faultIs(16, "page 4 4;bleed 1bleed 1;");
        faultIs(15, "page 4 4;frame 0 1 0 0 0 0;");
        faultIs(15, "page 4 4;frame 17 1 0 0 0 0;");
        faultIs(17, "page 4 4;frame 1 0 0 0 0 0;");
        faultIs(18, "page 4 4;frame 16 17 0 0 0 0;");
        faultIs(21, "page 4 4;frame 16 16 10 0 0 0;");
        faultIs(23, "page 4 4;frame 16 16 0 10 0 0;");
        faultIs(25, "page 4 4;frame 16 16 0 0 10 0;");
        faultIs(27, "page 4 4;frame 16 16 0 0 0 10;");
        faultIs(23, "page 4 4;frame 1 1 1 0 0 0;");
        faultIs(23, "page 4 4;frame 1 1 9 0 0 0;");
        faultIs(23, "page 4 4;frame 3 3 1 3 2 0;");
        faultIs(25, "page 4 4;frame 3 3 1 1 1 2;");
        faultIs(25, "page 4 4;frame 3 3 1 3 1 0;");
        faultIs(26, "page 4 4;frame 1 1 0 0 0 0");
        faultIs(26, "page 4 4;frame 1 1 0 0 0 0!");
        faultIs(27, "page 4 4;frame 1 1 0 0 0 0 0;");
        faultIs(24, "page 4 4;frame 1 1 0 0 0;");
        faultIs(27, "page 4 4;frame 1 1 0 0 0 0 x;");
        faultIs(28, ONE + (char) 32 + (char) 9);
        faultIs(27, ONE + (char) 225);
        faultIs(24, "page 4 4;logo 1 1 0 0 0 1;");
        faultIs(120, tight(7).substring(0, 119) + " ");
    }

    /** The shortest statements: seven of them are a text's 120 bytes, so an eighth can't be told. */
    private static String tight(int frames) {
        StringBuilder text = new StringBuilder("page4 4;");
        for (int i = 0; i < frames; i++) text.append("icon1 1 0 0 0 0;");
        return text.toString();
    }

    private static void faultRefused() {
        FrameSheets x = new FrameSheets();
        Check.leaves(x, "fault(4)", Check.BAD, () -> x.fault(4));
        Check.leaves(x, "fault(-1)", Check.BAD, () -> x.fault(-1));
        Check.finds(x, "fault(0)", Check.NOTHING, () -> x.fault(0));
        Check.due("a tight text of seven", 120, tight(7).length());
    }

    private static void sheet() {
        FrameSheets x = new FrameSheets();
        Check.leaves(x, "sheet(4)", Check.BAD, () -> x.sheet(4));
        Check.leaves(x, "sheet(-1)", Check.BAD, () -> x.sheet(-1));
        Check.finds(x, "sheet(0)", Check.NOTHING, () -> x.sheet(0));
        Check.lay(x, 0, "page 9 7;frame 1 1 0 0 0 0;bleed 2;logo 1 1 0 0 0 0;");
        Check.due("sheet(0)", 2, x.sheet(0));
        Check.due("frames", 2, x.count(0));
        Check.due("wide", 9, x.count(3));
        Check.due("high", 7, x.count(4));
        Check.due("bleed", 2, x.count(5));
        Check.tells(x, "bleed reaches frames ahead of it", 5, x.frame(0, 3));
        Check.lay(x, 0, "page 4 4;frame 1 1 0 0 0 0;bleed 1;frame");
        Check.leaves(x, "sheet of a fault", Check.STATE, () -> x.sheet(0));
        Check.due("fault", 40, x.fault(0));
        Check.due("bleed stays", 2, x.count(5));
        Check.tells(x, "frame stays", 5, x.frame(0, 3));
        Check.lay(x, 0, ONE);
        Check.due("sheet(0) anew", 1, x.sheet(0));
        Check.due("bleed not told", 0, x.count(5));
        Check.tells(x, "the edge goes, too", 1, x.frame(0, 3));
    }

    private static void sheetAnew() {
        FrameSheets x = Check.sheet("page 8 8;frame 3 2 0 0 0 0;icon 2 2 0 0 0 0;");
        x.set(0);
        x.rule(2);
        x.keep(1);
        Check.due("kept", 1, x.count(13));
        Check.due("sheet(0)", 2, x.sheet(0));
        Check.due("set", 0, x.count(1));
        Check.due("pages", 0, x.count(2));
        Check.due("rule", 0, x.count(6));
        Check.due("deeds", 0, x.count(10));
        Check.due("kept", 0, x.count(13));
        Check.finds(x, "on(1)", Check.NOTHING, () -> x.on(1));
        Check.due("undo(0)", 0, x.undo(0));
    }

    private static void writtenIs(String want, String text) {
        FrameSheets x = Check.sheet(text);
        Check.due("write of '" + text + "'", want.length(), x.write(1));
        for (int i = 0; i < want.length(); i++) {
            Check.due("byte " + i + " of '" + want + "'", 1000 + want.charAt(i), x.put(1, i, want.charAt(i)));
        }
        Check.finds(x, "its end", Check.BEYOND, () -> x.put(1, want.length(), 0));
        Check.due("it can be read", x.count(0), x.sheet(1));
    }

    private static void write() {
        writtenIs(ONE, ONE);
        writtenIs("page 16 10;bleed 1;logo 12 9 0 8 3 0;frame 1 1 0 0 0 0;",
                "  page 016 10 ; logo12 9 0 8 3 0;bleed 01;frame 1 1 0 0 0 0  ; ");
        writtenIs("page 4 4;border 3 3 1 1 1 1;icon 2 2 0 0 1 1;", "page4 4;bleed0;border3 3 1 1 1 1;icon2 2 0 0 1 1;");
        writtenIs("page 16 16;bleed 2;" + "icon 1 1 0 0 0 0;".repeat(5),
                "page16 16;bleed2;" + "icon1 1 0 0 0 0;".repeat(5));
    }

    private static void writeRefused() {
        FrameSheets x = new FrameSheets();
        Check.leaves(x, "write(4)", Check.BAD, () -> x.write(4));
        Check.leaves(x, "write(-1)", Check.BAD, () -> x.write(-1));
        Check.leaves(x, "write(0)", Check.STATE, () -> x.write(0));
        Check.lay(x, 0, tight(7));
        Check.due("sheet", 7, x.sheet(0));
        Check.leaves(x, "write(0): 128 bytes", Check.SPENT, () -> x.write(0));
        Check.leaves(x, "write(1): 128 bytes", Check.SPENT, () -> x.write(1));
        Check.due("texts", 1, x.count(12));
        FrameSheets y = Check.sheet("page16 16;" + "icon16 1 0 0 0 0;".repeat(4) + "frame16 16 0 0 0 0;" + "icon1 1 0 0 0 0;");
        Check.due("write(0): 120 bytes at most", 120, y.write(0));
        FrameSheets z = Check.sheet("page16 16;" + "icon16 1 0 0 0 0;".repeat(5) + "icon16 16 0 0 0 0;");
        Check.due("write(0): 120 bytes", 120, z.write(0));
        FrameSheets w = Check.sheet("page16 16;" + "icon16 1 0 0 0 0;".repeat(5) + "frame16 16 0 0 0 0;");
        Check.leaves(w, "write(0): 121 bytes", Check.SPENT, () -> w.write(0));
    }

    private static void frameIs(FrameSheets x, int f, int... want) {
        for (int what = 0; what < 5; what++) {
            Check.tells(x, "frame(" + f + ", " + what + ")", want[what], x.frame(f, what));
        }
    }

    private static void frame() {
        FrameSheets x = Check.sheet("page 16 16;bleed 1;frame 9 8 1 2 3 1;icon 9 8 1 2 3 1;border 9 8 1 2 3 1;logo 9 8 1 2 3 1;");
        frameIs(x, 0, 0, 5, 5, 7, 7);
        frameIs(x, 1, 1, 5, 5, 7, 7);
        frameIs(x, 2, 2, 5, 5, 9, 9);
        frameIs(x, 3, 3, 9, 8, 11, 10);
        FrameSheets y = Check.sheet("page 4 4;border 9 4 8 0 0 1;frame 9 4 8 0 0 1;");
        frameIs(y, 0, 2, 1, 3, 3, 5);
        frameIs(y, 1, 0, 1, 3, 1, 3);
        Check.leaves(y, "frame(2, 0)", Check.BAD, () -> y.frame(2, 0));
        Check.leaves(y, "frame(-1, 0)", Check.BAD, () -> y.frame(-1, 0));
        Check.leaves(y, "frame(0, 5)", Check.BAD, () -> y.frame(0, 5));
        Check.leaves(y, "frame(0, -1)", Check.BAD, () -> y.frame(0, -1));
        FrameSheets none = new FrameSheets();
        Check.leaves(none, "frame(0, 0), no sheet", Check.BAD, () -> none.frame(0, 0));
    }

    private static void place() {
        FrameSheets x = Check.sheet("page 5 4;icon 5 4 0 0 0 0;frame 2 4 0 0 0 0;frame 1 4 0 0 0 0;");
        Check.leaves(x, "place(1, 0)", Check.NONE, () -> x.place(1, 0));
        Check.leaves(x, "place(1, 4)", Check.BAD, () -> x.place(1, 4));
        Check.leaves(x, "place(1, -1)", Check.BAD, () -> x.place(1, -1));
        Check.leaves(x, "place(3, 0)", Check.BAD, () -> x.place(3, 0));
        Check.leaves(x, "place(-1, 0)", Check.BAD, () -> x.place(-1, 0));
        x.set(0);
        x.set(1);
        x.set(2);
        int[] want = {1, 2, 0, 0};
        for (int what = 0; what < 4; what++) Check.tells(x, "place(2, " + what + ")", want[what], x.place(2, what));
        x.lift(2);
        Check.leaves(x, "place(2, 0)", Check.NONE, () -> x.place(2, 0));
        x.lift(1);
        x.set(2);
        Check.due("turned does not fit as well", 1000000, Check.spot(x, 2));
        FrameSheets y = Check.sheet("page 5 4;frame 1 5 0 0 0 0;");
        y.set(0);
        Check.tells(y, "place(0, 3), turned", 1, y.place(0, 3));
    }

    private static void mark() {
        FrameSheets x = Check.sheet("page 16 16;bleed 1;frame 5 5 1 0 0 0;icon 9 8 1 2 3 1;border 6 5 1 2 3 1;logo 9 4 1 2 3 1;");
        Check.due("mark(1, 1)", 0, x.mark(1, 1));
        Check.due("mark(3, 1)", 5, x.mark(3, 1));
        Check.due("mark(2, 2)", 36 - 4, x.mark(2, 2));
        Check.due("mark(3, 3)", 36 - 5, x.mark(3, 3));
        int[][] unlike = {{0, 1}, {0, 2}, {0, 3}, {1, 2}, {1, 3}, {2, 1}, {2, 3}, {3, 2}};
        for (int[] pair : unlike) {
            Check.finds(x, "mark(" + pair[0] + ", " + pair[1] + ")", Check.UNLIKE, () -> x.mark(pair[0], pair[1]));
        }
        for (int f = -1; f <= 4; f++) {
            int it = f;
            Check.leaves(x, "mark(" + f + ", 0)", Check.BAD, () -> x.mark(it, 0));
            Check.leaves(x, "mark(" + f + ", 4)", Check.BAD, () -> x.mark(it, 4));
            Check.leaves(x, "mark(" + f + ", -1)", Check.BAD, () -> x.mark(it, -1));
        }
        Check.leaves(x, "mark(4, 1)", Check.BAD, () -> x.mark(4, 1));
        Check.leaves(x, "mark(-1, 1)", Check.BAD, () -> x.mark(-1, 1));
        FrameSheets y = Check.sheet("page 16 16;icon 2 8 0 0 0 0;icon 8 2 0 0 0 0;");
        Check.due("mark of a high one", 6, y.mark(0, 1));
        Check.due("mark of a wide one", 6, y.mark(1, 1));
    }
}
