/** Boundary cases of promises 13 to 15 and of what Terms 1 says of frames, sentence by sentence. */
public final class FrameEdgesTest {
    private static final int MAX = Scene.MAX, MIN = Scene.MIN, BAD = Check.BAD, NONE = Check.NONE;
    private static final int FRAME = 0, ICON = 1, BORDER = 2, LOGO = 3;
    private static final String[] WORDS = {"frame", "icon", "border", "logo"};

    public static void main(String[] args) {
        kinds();
        trimmed();
        logoIsNotTrimmed();
        keepsAnEdge();
        needs();
        turned();
        iconIsNotTurned();
        frameNumbers();
        frameWhat();
        placeNone();
        placeRefused();
        markIcon();
        markBorder();
        markLogo();
        markRefused();
        markUnlike();
        Check.end();
    }

    private static Scene one(int kind, String numbers, int bleed) {
        return Scene.sheet("page 16 16;bleed " + bleed + ";" + WORDS[kind] + " " + numbers + ";");
    }

    private static void isFrame(Scene s, int f, int... want) {
        for (int what = 0; what < 5; what++) s.tells(1, want[what], "frame", f, what);
    }

    private static void kinds() {
        Check.about("Terms 1: KINDS and WORDS: 0 FRAME (frame), 1 ICON (icon), 2 BORDER (border), 3 LOGO (logo)");
        for (int kind = 0; kind < 4; kind++) one(kind, "1 1 0 0 0 0", 0).tells(1, kind, "frame", 0, 0);
    }

    private static void trimmed() {
        Check.about("Terms 1: A FRAME is TRIMMED to w less left and right, h less above and below");
        for (int kind : new int[] {FRAME, ICON, BORDER}) {
            int edge = kind == BORDER ? 2 : 0;
            isFrame(one(kind, "16 16 0 0 0 0", 0), 0, kind, 16, 16, 16 + edge, 16 + edge);
            isFrame(one(kind, "16 16 9 9 6 6", 0), 0, kind, 1, 1, 1 + edge, 1 + edge);
            isFrame(one(kind, "16 16 9 0 0 6", 0), 0, kind, 7, 10, 7 + edge, 10 + edge);
            isFrame(one(kind, "16 16 0 9 6 0", 0), 0, kind, 10, 7, 10 + edge, 7 + edge);
            isFrame(one(kind, "1 2 0 1 0 0", 0), 0, kind, 1, 1, 1 + edge, 1 + edge);
            isFrame(one(kind, "1 1 0 0 0 0", 0), 0, kind, 1, 1, 1 + edge, 1 + edge);
        }
    }

    private static void logoIsNotTrimmed() {
        Check.about("Terms 1: a LOGO is not: w, h");
        isFrame(one(LOGO, "16 15 9 9 6 5", 0), 0, LOGO, 16, 15, 16, 15);
        isFrame(one(LOGO, "2 3 1 2 0 0", 1), 0, LOGO, 2, 3, 4, 5);
        isFrame(one(LOGO, "1 1 0 0 0 0", 2), 0, LOGO, 1, 1, 5, 5);
    }

    private static void keepsAnEdge() {
        Check.about("Terms 1: It KEEPS an edge of BLEED about it (a BORDER 1 more)");
        for (int bleed = 0; bleed <= 2; bleed++) {
            for (int kind = 0; kind < 4; kind++) {
                int edge = kind == BORDER ? bleed + 1 : bleed;
                Scene s = one(kind, "3 2 0 0 0 0", bleed);
                isFrame(s, 0, kind, 3, 2, 3 + 2 * edge, 2 + 2 * edge);
                s.gives(0, "set", 0).answers(100 * edge + edge, "point", 0, 0, 0);
                s.answers((3 + 2 * edge) * (2 + 2 * edge), "used", 0);
            }
        }
    }

    private static void needs() {
        Check.about("Terms 1: It NEEDS that which is TRIMMED and the edge on both sides, across and down");
        isFrame(one(BORDER, "16 16 0 0 0 0", 2), 0, BORDER, 16, 16, 22, 22);
        isFrame(one(FRAME, "16 1 0 0 0 0", 2), 0, FRAME, 16, 1, 20, 5);
        one(ICON, "12 12 0 0 0 0", 2).answers(0, "set", 0);
        one(ICON, "13 12 0 0 0 0", 2).refuses(Check.SPENT, "set", 0);
        one(ICON, "12 13 0 0 0 0", 2).refuses(Check.SPENT, "set", 0);
        one(ICON, "14 14 1 1 1 1", 2).answers(0, "set", 0);
        one(LOGO, "14 14 1 1 1 1", 2).refuses(Check.SPENT, "set", 0);
        one(BORDER, "10 10 0 0 0 0", 2).answers(0, "set", 0);
        one(BORDER, "11 10 0 0 0 0", 2).refuses(Check.SPENT, "set", 0);
    }

    private static void turned() {
        Check.about("Terms 1: TURNED it needs it the other way round (its columns lie down, its rows across, the first ones first)");
        for (int kind : new int[] {FRAME, BORDER}) {
            Scene s = Scene.sheet("page 6 4;" + WORDS[kind] + (kind == FRAME ? " 1 6 0 0 0 0;" : " 1 4 0 0 0 0;"));
            s.gives(0, "set", 0).isAt(0, 0, 0, 0, 1);
            int edge = kind == FRAME ? 0 : 1;
            s.answers(100 * edge + edge, "point", 0, 0, 0);
            s.answers(100 * (edge + 3) + edge, "point", 0, 0, 3);
            s.isFree(0, kind == FRAME ? new int[] {0, 1, 6, 3} : new int[] {0, 3, 6, 1});
        }
        Scene s = Scene.sheet("page 5 4;frame 3 5 0 0 0 0;").gives(0, "set", 0).isAt(0, 0, 0, 0, 1);
        for (int c = 0; c < 3; c++) for (int r = 0; r < 5; r++) s.answers(100 * r + c, "point", 0, c, r);
        s.tells(0, 0, "seen", 0, 0, 0);
        s.tells(0, 4, "seen", 0, 4, 0);
        s.tells(0, 200, "seen", 0, 0, 2);
        isFrame(s, 0, FRAME, 3, 5, 3, 5);
    }

    private static void iconIsNotTurned() {
        Check.about("Terms 1: an ICON may not be TURNED (a LOGO is an ICON)");
        for (int kind : new int[] {ICON, LOGO}) {
            Scene.sheet("page 5 4;" + WORDS[kind] + " 4 5 0 0 0 0;").refuses(Check.SPENT, "set", 0);
            Scene.sheet("page 5 4;" + WORDS[kind] + " 5 4 0 0 0 0;").gives(0, "set", 0).isAt(0, 0, 0, 0, 0);
            Scene.sheet("page 4 5;" + WORDS[kind] + " 5 4 0 0 0 0;").refuses(Check.SPENT, "set", 0);
        }
        for (int kind : new int[] {FRAME, BORDER}) {
            String sides = kind == FRAME ? " 4 5 0 0 0 0;" : " 2 3 0 0 0 0;";
            Scene.sheet("page 5 4;" + WORDS[kind] + sides).gives(0, "set", 0).isAt(0, 0, 0, 0, 1);
            Scene.sheet("page 4 5;" + WORDS[kind] + sides).gives(0, "set", 0).isAt(0, 0, 0, 0, 0);
        }
    }

    private static void frameNumbers() {
        Check.about("Terms 1: FRAMES 0, 1, ..: a number that is none is BAD");
        Scene s = Scene.busy();
        for (int f : new int[] {-1, 5, 6, 7, 8, 9, MIN, MAX}) {
            s.refuses(BAD, "frame", f, 0);
            s.refuses(BAD, "place", f, 0);
            s.refuses(BAD, "mark", f, 1);
            s.refuses(BAD, "set", f);
            s.refuses(BAD, "lift", f);
            s.refuses(BAD, "point", f, 0, 0);
        }
        Scene none = Scene.bare();
        for (int f : new int[] {-1, 0, 1, 7}) {
            none.refuses(BAD, "frame", f, 0);
            none.refuses(BAD, "place", f, 0);
            none.refuses(BAD, "mark", f, 1);
            none.refuses(BAD, "set", f);
            none.refuses(BAD, "lift", f);
            none.refuses(BAD, "point", f, 0, 0);
        }
        Scene seven = Scene.sheet("page4 4;" + "icon1 1 0 0 0 0;".repeat(6) + "icon2 1 0 0 0 0;");
        seven.tells(1, 2, "frame", 6, 1);
        seven.answers(1, "mark", 6, 1);
        seven.refuses(NONE, "place", 6, 0);
        seven.refuses(Check.STATE, "lift", 6);
        seven.refuses(Check.STATE, "point", 6, 0, 0);
        seven.answers(0, "set", 6);
        seven.refuses(BAD, "frame", 7, 0);
        seven.refuses(BAD, "set", 7);
        seven.refuses(BAD, "lift", 7);
    }

    private static void frameWhat() {
        Check.about("13: 0 KIND, 1, 2 what it is TRIMMED to across, down, 3, 4 what it NEEDS across, down, told by asked(): 1; BAD");
        Scene s = Scene.busy();
        isFrame(s, 0, FRAME, 2, 2, 4, 4);
        isFrame(s, 1, ICON, 1, 3, 3, 5);
        isFrame(s, 2, BORDER, 1, 1, 5, 5);
        isFrame(s, 3, LOGO, 3, 2, 5, 4);
        isFrame(s, 4, FRAME, 9, 9, 11, 11);
        for (int what : new int[] {-1, 5, 6, MIN, MAX}) s.refuses(BAD, "frame", 0, what);
        s.refuses(BAD, "frame", 5, 5);
        s.changesNothing("frame", 4, 4);
    }

    private static void placeNone() {
        Check.about("14: NONE: it is not SET");
        Scene s = Scene.sheet("page 4 5;icon 4 5 0 0 0 0;icon 3 4 0 0 0 0;frame 5 1 0 0 0 0;frame 9 9 0 0 0 0;").call("count", 3);
        for (int f = 0; f < 4; f++) for (int what = 0; what < 4; what++) s.refuses(NONE, "place", f, what);
        s.gives(0, "set", 0).gives(1, "set", 1).gives(1, "set", 2);
        s.isAt(0, 0, 0, 0, 0).isAt(1, 1, 0, 0, 0).isAt(2, 1, 3, 0, 1);
        for (int what = 0; what < 4; what++) s.refuses(NONE, "place", 3, what);
        Scene lifted = s.copy().call("lift", 1);
        for (int what = 0; what < 4; what++) lifted.refuses(NONE, "place", 1, what);
        lifted.isAt(2, 1, 3, 0, 1);
        Scene undone = s.copy().call("undo", 2);
        for (int what = 0; what < 4; what++) undone.refuses(NONE, "place", 2, what);
        undone.isAt(1, 1, 0, 0, 0);
        s.changesNothing("place", 2, 1);
    }

    private static void placeRefused() {
        Check.about("14: BAD (ahead of NONE)");
        Scene s = Scene.busy();
        for (int what : new int[] {-1, 4, 5, MIN, MAX}) for (int f = -1; f <= 5; f++) s.refuses(BAD, "place", f, what);
    }

    private static void markIcon() {
        Check.about("15: an ICON (LOGO, too) the difference of its sides as TRIMMED");
        one(ICON, "1 1 0 0 0 0", 2).answers(0, "mark", 0, ICON);
        one(ICON, "16 1 0 0 0 0", 0).answers(15, "mark", 0, ICON);
        one(ICON, "1 16 0 0 0 0", 0).answers(15, "mark", 0, ICON);
        one(ICON, "16 16 9 0 6 0", 1).answers(15, "mark", 0, ICON);
        one(ICON, "5 4 1 0 0 0", 1).answers(0, "mark", 0, ICON);
        one(ICON, "5 4 2 0 0 0", 1).answers(1, "mark", 0, ICON);
        one(LOGO, "5 4 2 0 0 0", 1).answers(1, "mark", 0, ICON);
        one(LOGO, "4 9 2 0 1 0", 1).answers(5, "mark", 0, ICON);
        one(LOGO, "16 16 9 0 6 0", 0).answers(0, "mark", 0, ICON);
    }

    private static void markBorder() {
        Check.about("15: a BORDER how many places its edge takes");
        one(BORDER, "1 1 0 0 0 0", 0).answers(9 - 1, "mark", 0, BORDER);
        one(BORDER, "1 1 0 0 0 0", 1).answers(25 - 1, "mark", 0, BORDER);
        one(BORDER, "1 1 0 0 0 0", 2).answers(49 - 1, "mark", 0, BORDER);
        one(BORDER, "4 5 1 1 0 1", 0).answers(25 - 9, "mark", 0, BORDER);
        one(BORDER, "4 2 0 0 0 0", 0).answers(24 - 8, "mark", 0, BORDER);
        one(BORDER, "2 4 0 0 0 0", 1).answers(48 - 8, "mark", 0, BORDER);
        one(BORDER, "16 1 0 0 0 0", 2).answers(22 * 7 - 16, "mark", 0, BORDER);
        one(BORDER, "16 16 0 0 0 0", 2).answers(22 * 22 - 256, "mark", 0, BORDER);
    }

    private static void markLogo() {
        Check.about("15: a LOGO how many points would be TRIMMED, were it none");
        one(LOGO, "3 4 0 0 0 0", 2).answers(0, "mark", 0, LOGO);
        one(LOGO, "3 4 1 0 0 0", 0).answers(4, "mark", 0, LOGO);
        one(LOGO, "3 4 0 1 0 0", 0).answers(3, "mark", 0, LOGO);
        one(LOGO, "3 4 0 0 1 0", 0).answers(4, "mark", 0, LOGO);
        one(LOGO, "3 4 0 0 0 1", 0).answers(3, "mark", 0, LOGO);
        one(LOGO, "16 16 9 9 6 6", 1).answers(255, "mark", 0, LOGO);
    }

    private static void markRefused() {
        Check.about("15: BAD: also KIND 0");
        Scene s = Scene.busy();
        for (int f = -1; f <= 5; f++) for (int kind : new int[] {0, -1, 4, 5, MIN, MAX}) s.refuses(BAD, "mark", f, kind);
    }

    private static void markUnlike() {
        Check.about("15: UNLIKE");
        Scene s = Scene.busy();
        int[] kinds = {FRAME, ICON, BORDER, LOGO, FRAME};
        int[][] want = {{-1, -1, -1}, {2, -1, -1}, {-1, 24, -1}, {1, -1, 4}, {-1, -1, -1}};
        for (int f = 0; f < 5; f++) {
            for (int kind = 1; kind < 4; kind++) {
                boolean is = kinds[f] == kind || kinds[f] == LOGO && kind == ICON;
                if (is) s.answers(want[f][kind - 1], "mark", f, kind);
                else s.finds(Check.UNLIKE, "mark", f, kind);
            }
        }
        s.refuses(1, "mark", 3, ICON);
    }
}
