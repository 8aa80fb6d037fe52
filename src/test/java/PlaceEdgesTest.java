/** Boundary cases of promises 23 to 27, sentence by sentence: what is where. */
public final class PlaceEdgesTest {
    private static final int MAX = Scene.MAX, MIN = Scene.MIN;
    private static final int BAD = Check.BAD, STATE = Check.STATE, NONE = Check.NONE;
    /** On page 0 free are 3 by 4 and 5 by 2; page 1 is full. */
    private static final String TWO = "page 5 4;icon 2 2 0 0 0 0;icon 5 4 0 0 0 0;";

    public static void main(String[] args) {
        free();
        freeNone();
        freeRefused();
        pageNumbers();
        placesOfPages();
        seen();
        seenUntrimmed();
        seenEdge();
        seenTurned();
        seenFarFromTheCorner();
        seenNone();
        point();
        pointTrimmed();
        pointOfLogo();
        pointRefused();
        pointState();
        pointIsSeen();
        used();
        usedCut();
        takesBits();
        takesRoom();
        takesGreatest();
        Check.end();
    }

    private static Scene two() {
        return Scene.sheet(TWO).call("set", 0).call("set", 1).row(0, 77).call("at", 0, 0);
    }

    // ---- 23

    private static void free() {
        Check.about("23: Of FREE rectangle k of a PAGE: 0 x, 1 y, 2 how wide, 3 how high, told by asked(): 1");
        two().isFree(0, 2, 0, 3, 4, 0, 2, 5, 2).isFree(1);
        two().call("lift", 0).isFree(0, 0, 0, 5, 4);
        for (int what = 0; what < 4; what++) two().changesNothing("free", 0, 1, what);
    }

    private static void freeNone() {
        Check.about("23: NONE: not so many");
        Scene s = two();
        for (int what = 0; what < 4; what++) {
            s.answers(1, "free", 0, 1, what);
            for (int k : new int[] {2, 3, 728, 729, MAX}) s.refuses(NONE, "free", 0, k, what);
            for (int k : new int[] {0, 1, MAX}) s.refuses(NONE, "free", 1, k, what);
        }
    }

    private static void freeRefused() {
        Check.about("23: BAD: also k below 0");
        Scene s = two();
        s.answers(1, "free", 0, 0, 0);
        for (int k : new int[] {-1, -2, MIN}) for (int page = -1; page <= 2; page++) s.refuses(BAD, "free", page, k, 0);
        Check.about("23: BAD (ahead of NONE)");
        for (int what : new int[] {-1, 4, 5, MIN, MAX}) for (int k : new int[] {0, 2, MAX}) s.refuses(BAD, "free", 0, k, what);
        s.refuses(BAD, "free", 2, 5, 0);
    }

    private static void pageNumbers() {
        Check.about("23 .. 27: BAD: a PAGE there is not");
        for (int page : new int[] {-1, 2, 3, 7, 8, MIN, MAX}) {
            two().refuses(BAD, "free", page, 0, 0);
            two().refuses(BAD, "seen", page, 0, 0);
            two().refuses(BAD, "used", page);
            two().refuses(BAD, "takes", page);
        }
        for (int page = 0; page < 2; page++) {
            two().answers(page == 0 ? 1 : NONE, "free", page, 0, 0);
            two().answers(page, "seen", page, 0, 0);
            two().answers(page == 0 ? 4 : 20, "used", page);
            two().answers(0, "takes", page);
        }
        for (Scene s : new Scene[] {Scene.bare(), Scene.sheet(TWO), two().call("undo", 0)}) {
            for (int page = -1; page <= 1; page++) {
                s.refuses(BAD, "free", page, 0, 0);
                s.refuses(BAD, "seen", page, 0, 0);
                s.refuses(BAD, "used", page);
                s.refuses(BAD, "takes", page);
            }
        }
    }

    // ---- 24

    private static void placesOfPages() {
        Check.about("Terms 2: A PAGE has places x (0 .. WIDE less 1), y (0 .. HIGH less 1); 24: BAD");
        Scene s = two();
        for (int n : new int[] {-1, 5, 6, 16, MIN, MAX}) {
            s.refuses(BAD, "seen", 0, n, 0);
            s.refuses(BAD, "seen", 1, n, 3);
        }
        for (int n : new int[] {-1, 4, 5, 16, MIN, MAX}) {
            s.refuses(BAD, "seen", 0, 0, n);
            s.refuses(BAD, "seen", 1, 4, n);
        }
        for (int x = 0; x < 5; x++) for (int y = 0; y < 4; y++) s.tells(1, 100 * x + y, "seen", 1, x, y);
        Scene most = Scene.sheet("page 16 16;icon 16 16 0 0 0 0;").call("set", 0);
        most.tells(0, 1515, "seen", 0, 15, 15);
        most.refuses(BAD, "seen", 0, 16, 15);
        most.refuses(BAD, "seen", 0, 15, 16);
    }

    private static void seen() {
        Check.about("24: The FRAME that takes a place of a PAGE; the point of it that is seen there: 100 times its column and its row");
        Scene s = two();
        for (int x = 0; x < 5; x++) {
            for (int y = 0; y < 4; y++) {
                if (x < 2 && y < 2) s.tells(0, 100 * x + y, "seen", 0, x, y);
                else s.refuses(NONE, "seen", 0, x, y);
            }
        }
        s.changesNothing("seen", 0, 1, 1);
    }

    private static void seenUntrimmed() {
        Check.about("24: (0, 0 the first of all of it, untrimmed)");
        Scene s = Scene.sheet("page 4 4;icon 16 14 9 8 5 3;logo 2 3 1 2 0 0;").call("set", 0).call("set", 1);
        s.isAt(0, 0, 0, 0, 0).isAt(1, 0, 2, 0, 0);
        for (int x = 0; x < 2; x++) {
            for (int y = 0; y < 3; y++) {
                s.tells(0, 100 * (9 + x) + 8 + y, "seen", 0, x, y);
                s.tells(1, 100 * x + y, "seen", 0, 2 + x, y);
            }
        }
    }

    private static void seenEdge() {
        Check.about("24: at the edge that of the nearest point");
        for (int bleed = 0; bleed <= 2; bleed++) {
            Scene s = Scene.sheet("page 9 8;bleed " + bleed + ";border 4 4 1 2 1 1;").call("rule", 2).call("set", 0);
            int edge = bleed + 1;
            s.isAt(0, 0, 0, 0, 0);
            for (int x = 0; x < 9; x++) {
                for (int y = 0; y < 8; y++) {
                    boolean taken = x < 2 + 2 * edge && y < 1 + 2 * edge;
                    if (taken) s.tells(0, x <= edge ? 102 : 202, "seen", 0, x, y);
                    else s.refuses(NONE, "seen", 0, x, y);
                }
            }
        }
    }

    private static void seenTurned() {
        Check.about("24: of one that is TURNED, its columns down and its rows across");
        Scene s = Scene.sheet("page 5 4;bleed 1;frame 4 6 1 2 1 1;").gives(0, "set", 0).isAt(0, 0, 0, 0, 1);
        int[] rows = {2, 2, 3, 4, 4};
        int[] columns = {1, 1, 2, 2};
        for (int x = 0; x < 5; x++) for (int y = 0; y < 4; y++) s.tells(0, 100 * columns[y] + rows[x], "seen", 0, x, y);
    }

    private static int within(int i, int most) {
        return Math.max(0, Math.min(i, most));
    }

    private static void seenFarFromTheCorner() {
        Check.about("24, 25: wherever on its PAGE the FRAME lies, TURNED or not");
        Scene s = Scene.sheet("page8 7;icon8 3 0 0 0 0;icon3 4 0 0 0 0;border3 3 1 1 0 0;frame4 1 0 0 0 0;").call("rule", 2).call("all", 0);
        s.isAt(0, 0, 0, 0, 0).isAt(1, 0, 0, 3, 0).isAt(2, 0, 3, 3, 0).isAt(3, 0, 7, 3, 1);
        for (int x = 0; x < 8; x++) {
            for (int y = 0; y < 7; y++) {
                if (y < 3) s.tells(0, 100 * x + y, "seen", 0, x, y);
                else if (x < 3) s.tells(1, 100 * x + y - 3, "seen", 0, x, y);
                else if (x < 7) s.tells(2, 100 * (1 + within(x - 4, 1)) + 1 + within(y - 4, 1), "seen", 0, x, y);
                else s.tells(3, 100 * (y - 3), "seen", 0, x, y);
            }
        }
        s.answers(505, "point", 2, 2, 2);
        s.answers(706, "point", 3, 3, 0);
        Scene t = Scene.sheet("page9 7;icon9 3 0 0 0 0;icon4 4 0 0 0 0;border2 3 0 0 0 0;").call("all", 0).isAt(2, 0, 4, 3, 1);
        for (int x = 4; x < 9; x++) {
            for (int y = 3; y < 7; y++) t.tells(2, 100 * within(y - 4, 1) + within(x - 5, 2), "seen", 0, x, y);
        }
        for (int c = 0; c < 2; c++) for (int r = 0; r < 3; r++) t.answers(100 * (5 + r) + 4 + c, "point", 2, c, r);
    }

    private static void seenNone() {
        Check.about("24: NONE: none does");
        Scene s = two();
        s.refuses(NONE, "seen", 0, 2, 0);
        s.refuses(NONE, "seen", 0, 0, 2);
        s.refuses(NONE, "seen", 0, 4, 3);
        s.copy().call("lift", 0).refuses(NONE, "seen", 0, 0, 0);
        s.copy().call("lift", 0).tells(1, 0, "seen", 1, 0, 0);
    }

    // ---- 25

    private static void point() {
        Check.about("25: Where a point (column, row) of a FRAME that is SET lies: 10000 times its PAGE, 100 times x, and y");
        Scene s = two();
        s.answers(0, "point", 0, 0, 0);
        s.answers(101, "point", 0, 1, 1);
        s.answers(10000, "point", 1, 0, 0);
        s.answers(10403, "point", 1, 4, 3);
        s.refuses(10403, "point", 1, 4, 3);
        Scene far = Scene.sheet("page 16 16;icon 15 15 0 0 0 0;icon 1 15 0 0 0 0;icon 16 1 0 0 0 0;").call("set", 0).call("set", 1).call("set", 2);
        far.answers(1500, "point", 1, 0, 0);
        far.answers(1514, "point", 1, 0, 14);
        far.answers(1515, "point", 2, 15, 0);
    }

    private static void pointTrimmed() {
        Check.about("25: NONE: it is TRIMMED");
        Scene s = Scene.sheet("page 9 8;bleed 1;frame 6 7 2 1 1 3;").call("set", 0).isAt(0, 0, 0, 0, 0);
        for (int c = 0; c < 6; c++) {
            for (int r = 0; r < 7; r++) {
                boolean is = c >= 2 && c <= 4 && r >= 1 && r <= 3;
                if (is) s.answers(100 * (c - 1) + r, "point", 0, c, r);
                else s.refuses(NONE, "point", 0, c, r);
            }
        }
    }

    private static void pointOfLogo() {
        Check.about("25: of a LOGO no point is TRIMMED");
        Scene s = Scene.sheet("page 9 8;bleed 1;logo 3 4 1 2 1 1;").call("set", 0);
        for (int c = 0; c < 3; c++) for (int r = 0; r < 4; r++) s.answers(100 * (c + 1) + r + 1, "point", 0, c, r);
    }

    private static void pointRefused() {
        Check.about("25: BAD: also no such point");
        Scene s = Scene.sheet("page 9 8;frame 6 7 2 1 1 3;icon 1 1 0 0 0 0;");
        for (Scene it : new Scene[] {s, s.copy().call("set", 0)}) {
            for (int c : new int[] {-1, 6, 7, MIN, MAX}) {
                it.refuses(BAD, "point", 0, c, 0);
                it.refuses(BAD, "point", 0, c, 2);
            }
            for (int r : new int[] {-1, 7, 8, MIN, MAX}) {
                it.refuses(BAD, "point", 0, 0, r);
                it.refuses(BAD, "point", 0, 3, r);
            }
            it.refuses(BAD, "point", 1, 1, 0);
            it.refuses(BAD, "point", 1, 0, 1);
            it.refuses(BAD, "point", 2, 0, 0);
        }
    }

    private static void pointState() {
        Check.about("25: STATE: it is not SET (NONE last)");
        Scene s = Scene.sheet("page 9 8;frame 6 7 2 1 1 3;icon 1 1 0 0 0 0;");
        for (int c : new int[] {0, 2, 5}) for (int r : new int[] {0, 1, 6}) s.refuses(STATE, "point", 0, c, r);
        s.call("set", 1).refuses(STATE, "point", 0, 5, 6);
        s.call("set", 0).refuses(NONE, "point", 0, 5, 6);
        s.call("lift", 0).refuses(STATE, "point", 0, 5, 6);
    }

    private static void pointIsSeen() {
        Check.about("24, 25: a point that lies at a place is seen there");
        Scene s = Scene.sheet("page 6 5;bleed 1;frame 2 3 0 1 0 0;logo 2 3 1 0 0 1;frame 3 1 0 0 0 0;icon 3 2 0 0 2 1;").call("all", 0);
        for (int f = 0; f < 4; f++) {
            for (int c = 0; c < 3; c++) {
                for (int r = 0; r < 3; r++) {
                    int where = s.play().point(f, c, r);
                    if (where >= 0) s.tells(f, 100 * c + r, "seen", where / 10000, where / 100 % 100, where % 100);
                }
            }
        }
    }

    // ---- 26

    private static void used() {
        Check.about("26: Places of a PAGE that are taken");
        Scene s = two();
        s.tells(4, 20, "used", 0);
        s.tells(20, 100, "used", 1);
        s.copy().call("lift", 0).tells(0, 0, "used", 0);
        s.changesNothing("used", 1);
        Scene edge = Scene.sheet("page 9 8;bleed 2;border 1 2 0 0 0 0;").call("set", 0);
        edge.tells(56, 77, "used", 0);
    }

    private static void usedCut() {
        Check.about("26: of a hundred, cut, by asked()");
        String[] sides = {"1 1", "2 1", "3 1", "1 5", "2 3", "8 8", "16 8", "16 15"};
        int[] taken = {1, 2, 3, 5, 6, 64, 128, 240};
        int[] hundred = {0, 0, 1, 1, 2, 25, 50, 93};
        for (int i = 0; i < sides.length; i++) {
            Scene.sheet("page 16 16;icon " + sides[i] + " 0 0 0 0;").call("set", 0).tells(taken[i], hundred[i], "used", 0);
        }
        Scene s = Scene.sheet("page 16 16;icon 16 15 0 0 0 0;icon 15 1 0 0 0 0;icon 1 1 0 0 0 0;").call("set", 0).call("set", 1);
        s.tells(255, 99, "used", 0);
        s.call("set", 2).tells(256, 100, "used", 0);
        Scene.sheet("page 6 4;icon 2 4 0 0 0 0;").call("set", 0).tells(8, 33, "used", 0);
        Scene.sheet("page 6 4;icon 4 4 0 0 0 0;").call("set", 0).tells(16, 66, "used", 0);
    }

    // ---- 27

    private static void takesBits() {
        Check.about("27: FRAMES (bits) not SET for which a PAGE has room");
        Scene s = Scene.sheet("page4 4;" + "icon1 1 0 0 0 0;".repeat(7));
        int bits = 127;
        for (int f : new int[] {3, 0, 6, 1, 5}) {
            s.call("set", f);
            bits -= 1 << f;
            s.answers(bits, "takes", 0);
        }
        s.copy().call("lift", 6).answers(bits + 64, "takes", 0);
        s.changesNothing("takes", 0);
    }

    private static void takesRoom() {
        Check.about("27: just those that NEED no more than a FREE rectangle, turned if they may be");
        Scene s = Scene.sheet("page5 4;icon2 4 0 0 0 0;icon3 4 0 0 0 0;icon4 3 0 0 0 0;frame4 3 0 0 0 0;border1 2 0 0 0 0;");
        s.gives(0, "set", 0).isFree(0, 2, 0, 3, 4);
        s.tells(2 + 8 + 16, 12, "takes", 0);
        Scene logo = Scene.sheet("page5 4;icon2 4 0 0 0 0;logo4 3 0 0 0 0;logo3 4 1 0 1 0;logo4 4 1 0 0 0;icon4 4 1 0 0 0;border2 2 0 0 0 0;");
        logo.call("set", 0).tells(4 + 16, 12, "takes", 0);
        logo.call("rule", 3).tells(4 + 16, 12, "takes", 0);
        Scene full = Scene.sheet("page 4 4;icon 4 4 0 0 0 0;icon 1 1 0 0 0 0;icon 5 1 0 0 0 0;").call("set", 0);
        full.tells(0, 0, "takes", 0);
        full.call("set", 1).call("lift", 0).tells(1, 16, "takes", 0);
        full.tells(0, 12, "takes", 1);
    }

    private static void takesGreatest() {
        Check.about("27: the PAGE's greatest FREE rectangle (how many places; 0: none) by asked()");
        Scene.sheet("page 16 16;icon 1 1 0 0 0 0;").call("set", 0).tells(0, 240, "takes", 0);
        Scene.sheet("page 4 4;icon 4 4 0 0 0 0;").call("set", 0).tells(0, 0, "takes", 0);
        Scene.sheet("page 4 4;icon 4 3 0 0 0 0;icon 3 1 0 0 0 0;").call("set", 0).call("set", 1).tells(0, 1, "takes", 0);
        Scene.sheet("page 5 4;icon 2 1 0 0 0 0;").call("set", 0).tells(0, 15, "takes", 0);
        Scene.sheet("page 5 4;icon 1 2 0 0 0 0;").call("set", 0).tells(0, 16, "takes", 0);
        Scene empty = Scene.sheet("page 5 4;icon 5 4 0 0 0 0;icon 1 1 0 0 0 0;").call("set", 0).call("set", 1).call("lift", 0);
        empty.tells(1, 20, "takes", 0);
    }
}
