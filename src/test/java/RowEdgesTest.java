/** Boundary cases of promises 1 to 9, sentence by sentence: a new object, rows, bytes of texts. */
public final class RowEdgesTest {
    private static final int MAX = Scene.MAX, MIN = Scene.MIN;

    public static void main(String[] args) {
        newObject();
        rowNumbers();
        textNumbers();
        row();
        rowRefused();
        lay();
        at();
        tear();
        copyOfItself();
        copyOfMany();
        copyRefused();
        copyWraps();
        mean();
        meanOfNone();
        text();
        textRefused();
        put();
        putRefused();
        Check.end();
    }

    private static void newObject() {
        Check.about("1: No ROWS, TEXTS, SHEET");
        Scene s = Scene.bare();
        for (int what = 0; what < 14; what++) s.answers(0, "count", what);
        for (int r = 0; r < 6; r++) s.finds(Check.NOTHING, "at", r, 0);
        for (int t = 0; t < 4; t++) s.finds(Check.NOTHING, "put", t, 0, 0);
        for (int k = 0; k < 3; k++) s.finds(Check.NOTHING, "on", k);
        s.refuses(Check.STATE, "write", 0);
        s.refuses(Check.BAD, "frame", 0, 0);
        s.answers(0, "asked");
        s.answers(0, "finding");
    }

    private static void rowNumbers() {
        Check.about("Terms 1: ROWS 0 .. 5, or missing (at first)");
        Scene s = Scene.busy();
        for (int r : new int[] {-1, 6, 7, MIN, MAX}) {
            s.refuses(Check.BAD, "row", r, 1);
            s.refuses(Check.BAD, "lay", r, 0, 1);
            s.refuses(Check.BAD, "at", r, 0);
            s.refuses(Check.BAD, "tear", r);
            s.refuses(Check.BAD, "copy", r, 0, 0, 0, 1);
            s.refuses(Check.BAD, "copy", 0, 0, r, 0, 1);
            s.refuses(Check.BAD, "mean", r);
        }
        Scene six = Scene.bare();
        for (int r = 0; r < 6; r++) six.gives(r, "count", 11).gives(2, "row", r, 2).call("lay", r, 1, 10 + r);
        six.answers(6, "count", 11);
        for (int r = 0; r < 6; r++) {
            six.tells(1, 10 + r, "at", r, 1);
            six.tells(1, 10 + r, "lay", r, 1, 3);
            six.tells(1, (10 + r) / 2, "mean", r);
            six.copy().gives(1, "copy", r, 1, 5 - r, 0, 1).tells(1, 10 + r, "at", 5 - r, 0);
            six.copy().gives(1, "tear", r).answers(5, "count", 11);
        }
    }

    private static void textNumbers() {
        Check.about("Terms 1: TEXTS 0 .. 3, or missing (at first)");
        Scene s = Scene.busy();
        for (int t : new int[] {-1, 4, 5, MIN, MAX}) {
            s.refuses(Check.BAD, "text", t, 1);
            s.refuses(Check.BAD, "put", t, 0, 1);
            s.refuses(Check.BAD, "fault", t);
            s.refuses(Check.BAD, "sheet", t);
            s.refuses(Check.BAD, "write", t);
        }
        String text = "page 4 4;icon 1 1 0 0 0 0;";
        Scene four = Scene.bare();
        for (int t = 0; t < 4; t++) {
            four.answers(t, "count", 12);
            four.finds(Check.NOTHING, "fault", t);
            four.text(t, text);
            four.answers(t + 1, "count", 12);
        }
        for (int t = 0; t < 4; t++) {
            four.answers(Check.NONE, "fault", t);
            four.copy().gives(1, "sheet", t).answers(26, "write", t);
            Scene other = four.copy().gives(1000 + 'p', "put", t, 0, 'x');
            for (int u = 0; u < 4; u++) other.answers(u == t ? 0 : Check.NONE, "fault", u);
        }
    }

    private static void row() {
        Check.about("2: A ROW is there with n ints 0: n (0 to 40)");
        for (int n : new int[] {0, 1, 2, 39, 40}) {
            Scene s = Scene.bare().gives(n, "row", 3, n);
            s.answers(1, "count", 11);
            for (int i = 0; i < n; i++) s.tells(1, 0, "at", 3, i);
            s.finds(Check.BEYOND, "at", 3, n);
        }
        Check.about("2: a ROW that was there has n ints 0 as well");
        Scene s = Scene.bare().row(0, 7, 8, 9).row(1, 6);
        s.copy().gives(3, "row", 0, 3).call("at", 1, 0).tells(1, 0, "at", 0, 2);
        Scene less = s.copy().gives(1, "row", 0, 1);
        less.tells(1, 0, "at", 0, 0);
        less.finds(Check.BEYOND, "at", 0, 1);
        Scene more = less.copy().gives(4, "row", 0, 4);
        for (int i = 0; i < 4; i++) more.copy().call("at", 1, 0).tells(1, 0, "at", 0, i);
        more.tells(1, 6, "at", 1, 0);
        more.answers(2, "count", 11);
    }

    private static void rowRefused() {
        Check.about("2: BAD: also n above 40");
        Scene s = Scene.busy();
        s.answers(40, "row", 0, 40);
        for (int n : new int[] {41, 42, MAX}) {
            s.refuses(Check.BAD, "row", 0, n);
            s.refuses(Check.BAD, "row", 5, n);
        }
        Check.about("2: SIZE: below 0");
        s.answers(0, "row", 0, 0);
        for (int n : new int[] {-1, -2, -41, MIN}) {
            s.finds(Check.SIZE, "row", 0, n);
            s.finds(Check.SIZE, "row", 5, n);
        }
        s.copy().call("row", 5, -1).finds(Check.NOTHING, "at", 5, 0);
        s.copy().call("row", 0, -1).tells(1, 9, "at", 0, 2);
    }

    private static void lay() {
        Check.about("3: Place i of a ROW is v: what it was, told by asked(): 1");
        Scene s = Scene.bare().row(2, 3, 4, 5).row(3, 8);
        for (int v : new int[] {0, 1, -1, MAX, MIN}) {
            for (int i = 0; i < 3; i++) {
                s.tells(1, 3 + i, "lay", 2, i, v);
                Scene laid = s.copy().call("lay", 2, i, v);
                for (int j = 0; j < 3; j++) laid.tells(1, i == j ? v : 3 + j, "at", 2, j);
                laid.tells(1, v, "lay", 2, i, 6);
                laid.tells(1, 8, "at", 3, 0);
            }
        }
        Check.about("3: NOTHING");
        Scene busy = Scene.busy();
        for (int i : new int[] {0, -1, 40, MIN, MAX}) busy.finds(Check.NOTHING, "lay", 5, i, 1);
        busy.copy().call("tear", 0).finds(Check.NOTHING, "lay", 0, 0, 1);
        Check.about("3: BEYOND");
        for (int i : new int[] {-1, 3, 4, 39, 40, MIN, MAX}) busy.finds(Check.BEYOND, "lay", 0, i, 1);
        busy.finds(Check.BEYOND, "lay", 1, 0, 1);
        Scene forty = Scene.bare().call("row", 0, 40).gives(1, "lay", 0, 39, 5).gives(1, "lay", 0, 0, 6);
        forty.tells(1, 5, "at", 0, 39);
        forty.finds(Check.BEYOND, "lay", 0, 40, 5);
    }

    private static void at() {
        Check.about("4: Place i of a ROW, told by asked(): 1");
        Scene s = Scene.bare().row(2, MIN, 0, MAX);
        s.tells(1, MIN, "at", 2, 0);
        s.copy().call("at", 2, 0).tells(1, 0, "at", 2, 1);
        s.tells(1, MAX, "at", 2, 2);
        s.changesNothing("at", 2, 0);
        Check.about("4: NOTHING");
        Scene busy = Scene.busy();
        for (int i : new int[] {0, -1, 40, MIN, MAX}) busy.finds(Check.NOTHING, "at", 3, i);
        Check.about("4: BEYOND");
        for (int i : new int[] {-1, 3, 4, 40, MIN, MAX}) busy.finds(Check.BEYOND, "at", 0, i);
        for (int i : new int[] {-1, 0, 1}) busy.finds(Check.BEYOND, "at", 1, i);
    }

    private static void tear() {
        Check.about("5: A ROW is missing: 1");
        Scene s = Scene.bare().row(0).row(5, 1, 2);
        s.copy().gives(1, "tear", 0).answers(1, "count", 11);
        Scene torn = s.copy().gives(1, "tear", 5);
        torn.finds(Check.NOTHING, "at", 5, 0);
        torn.answers(1, "count", 11);
        torn.copy().gives(2, "row", 5, 2).call("at", 0, 0).tells(1, 0, "at", 5, 1);
        Check.about("5: NOTHING");
        torn.finds(Check.NOTHING, "tear", 5);
        Scene.busy().finds(Check.NOTHING, "tear", 3);
        Scene.bare().finds(Check.NOTHING, "tear", 0);
    }

    private static void isRow(Scene s, int r, int... want) {
        for (int i = 0; i < want.length; i++) s.tells(1, want[i], "at", r, i);
        s.finds(Check.BEYOND, "at", r, want.length);
    }

    private static void copyOfItself() {
        Check.about("6: to another one (perhaps itself), as if taken ahead");
        Scene s = Scene.bare().row(4, 1, 2, 3, 4, 5);
        isRow(s.copy().gives(1, "copy", 4, 0, 4, 1, 4), 4, 1, 1, 2, 3, 4);
        isRow(s.copy().gives(1, "copy", 4, 0, 4, 2, 3), 4, 1, 2, 1, 2, 3);
        isRow(s.copy().gives(1, "copy", 4, 1, 4, 0, 4), 4, 2, 3, 4, 5, 5);
        isRow(s.copy().gives(1, "copy", 4, 2, 4, 0, 3), 4, 3, 4, 5, 4, 5);
        isRow(s.copy().gives(1, "copy", 4, 0, 4, 0, 5), 4, 1, 2, 3, 4, 5);
        isRow(s.copy().gives(1, "copy", 4, 0, 4, 4, 1), 4, 1, 2, 3, 4, 1);
    }

    private static void copyOfMany() {
        Check.about("6: n places of a ROW, from one on, come to those of another one from one on: 1");
        Scene s = Scene.bare().row(0, 1, 2, 3).row(1, 7, 8, 9, 6);
        isRow(s.copy().gives(1, "copy", 0, 0, 1, 0, 3), 1, 1, 2, 3, 6);
        isRow(s.copy().gives(1, "copy", 0, 0, 1, 1, 3), 1, 7, 1, 2, 3);
        isRow(s.copy().gives(1, "copy", 0, 2, 1, 3, 1), 1, 7, 8, 9, 3);
        isRow(s.copy().gives(1, "copy", 0, 2, 1, 3, 1), 0, 1, 2, 3);
        for (int i = 0; i <= 3; i++) {
            for (int j = 0; j <= 4; j++) {
                s.answers(1, "copy", 0, i, 1, j, 0);
                s.changesNothing("copy", 0, i, 1, j, 0);
            }
        }
        Scene none = Scene.bare().row(0).row(1);
        none.answers(1, "copy", 0, 0, 1, 0, 0);
        none.answers(1, "copy", 0, 0, 0, 0, 0);
        none.finds(Check.BEYOND, "copy", 0, 0, 1, 0, 1);
        Scene all = Scene.bare().row(2, 5).call("row", 0, 40).call("row", 1, 40).call("lay", 0, 0, 3).call("lay", 0, 39, 4);
        Scene copied = all.copy().gives(1, "copy", 0, 0, 1, 0, 40);
        copied.tells(1, 3, "at", 1, 0);
        copied.tells(1, 4, "at", 1, 39);
        all.finds(Check.BEYOND, "copy", 0, 0, 1, 0, 41);
        s.changesNothing("copy", 0, 0, 0, 0, 3);
        s.copy().call("at", 0, 1).gives(1, "copy", 0, 0, 1, 0, 3).answers(2, "asked");
    }

    private static void copyRefused() {
        Scene s = Scene.busy();
        Check.about("6: SIZE: n below 0");
        for (int n : new int[] {-1, -2, MIN}) {
            s.finds(Check.SIZE, "copy", 0, 0, 2, 0, n);
            s.finds(Check.SIZE, "copy", 0, 3, 2, 2, n);
            s.finds(Check.SIZE, "copy", 3, 0, 4, 0, n);
            s.finds(Check.SIZE, "copy", 0, -1, 2, MAX, n);
        }
        Check.about("6: NOTHING: either");
        for (int n : new int[] {0, 1, MAX}) {
            s.finds(Check.NOTHING, "copy", 3, 0, 0, 0, n);
            s.finds(Check.NOTHING, "copy", 0, 0, 3, 0, n);
            s.finds(Check.NOTHING, "copy", 3, -1, 4, -1, n);
            s.finds(Check.NOTHING, "copy", 0, MAX, 3, 0, n);
            s.finds(Check.NOTHING, "copy", 3, 0, 3, 0, n);
        }
        Check.about("6: BEYOND: not so many there");
        s.answers(1, "copy", 0, 1, 2, 0, 2);
        s.finds(Check.BEYOND, "copy", 0, 2, 2, 0, 2);
        s.finds(Check.BEYOND, "copy", 0, 1, 2, 1, 2);
        s.finds(Check.BEYOND, "copy", 0, 0, 2, 0, 3);
        s.finds(Check.BEYOND, "copy", 2, 0, 0, 0, 3);
        s.finds(Check.BEYOND, "copy", 0, 3, 2, 0, 1);
        s.finds(Check.BEYOND, "copy", 0, 0, 2, 2, 1);
        s.finds(Check.BEYOND, "copy", 0, 4, 2, 0, 0);
        s.finds(Check.BEYOND, "copy", 0, 0, 2, 3, 0);
        s.finds(Check.BEYOND, "copy", 0, 1, 0, 2, 2);
        for (int n : new int[] {0, 1, 2}) {
            s.finds(Check.BEYOND, "copy", 0, -1, 2, 0, n);
            s.finds(Check.BEYOND, "copy", 0, 0, 2, -1, n);
        }
    }

    private static void copyWraps() {
        Check.about("6: BEYOND: not so many there, where i or j and n together are more than an int");
        Scene s = Scene.busy();
        for (int i : new int[] {1, 2, 3, MAX}) {
            s.finds(Check.BEYOND, "copy", 0, i, 2, 0, MAX);
            s.finds(Check.BEYOND, "copy", 0, 0, 2, i, MAX);
            s.finds(Check.BEYOND, "copy", 0, i, 0, i, MAX);
        }
        s.finds(Check.BEYOND, "copy", 0, MAX, 2, 0, 1);
        s.finds(Check.BEYOND, "copy", 0, 0, 2, MAX, 1);
        s.finds(Check.BEYOND, "copy", 0, MAX, 2, 0, 0);
        s.finds(Check.BEYOND, "copy", 0, MIN, 2, 0, 1);
        s.finds(Check.BEYOND, "copy", 0, 0, 2, MIN, MAX);
        s.finds(Check.BEYOND, "copy", 0, MIN, 2, MIN, 0);
    }

    private static void mean() {
        Check.about("7: The mean of a ROW's ints, cut, told by asked(): 1");
        int[][] rows = {
            {5}, {0}, {-5}, {1, 2}, {2, 2}, {1, 0}, {0, -1}, {-1, -2}, {-2, -2}, {3, 4, 4}, {-3, -4, -4},
            {MAX}, {MIN}, {MAX, MAX}, {MIN, MIN}, {MAX, MIN}, {MAX, 1}, {MIN, -1}, {MAX, MAX, MAX},
        };
        int[] want = {
            5, 0, -5, 1, 2, 0, 0, -1, -2, 3, -3,
            MAX, MIN, MAX, MIN, 0, 1 << 30, -(1 << 30), MAX,
        };
        for (int i = 0; i < rows.length; i++) Scene.bare().row(1, 9, 9).call("at", 1, 0).row(0, rows[i]).tells(1, want[i], "mean", 0);
        Scene forty = Scene.bare().row(1, 77);
        forty.call("row", 0, 40);
        for (int i = 0; i < 40; i++) forty.call("lay", 0, i, MAX);
        forty.copy().call("at", 1, 0).tells(1, MAX, "mean", 0);
        forty.copy().call("lay", 0, 39, MAX - 1).tells(1, MAX - 1, "mean", 0);
        for (int i = 0; i < 40; i++) forty.call("lay", 0, i, MIN);
        forty.tells(1, MIN, "mean", 0);
        forty.changesNothing("mean", 0);
    }

    private static void meanOfNone() {
        Check.about("7: NOUGHT");
        Scene s = Scene.busy();
        s.finds(Check.NOUGHT, "mean", 1);
        s.copy().call("row", 1, 1).tells(1, 0, "mean", 1);
        s.copy().call("row", 0, 0).finds(Check.NOUGHT, "mean", 0);
        Check.about("7: NOTHING");
        s.finds(Check.NOTHING, "mean", 5);
        s.copy().call("tear", 1).finds(Check.NOTHING, "mean", 1);
    }

    private static void text() {
        Check.about("8: A TEXT is there with n blanks: n (0 to 120)");
        for (int n : new int[] {0, 1, 2, 119, 120}) {
            Scene s = Scene.bare().gives(n, "text", 2, n);
            s.answers(1, "count", 12);
            s.answers(n, "fault", 2);
            for (int i = 0; i < n; i++) s.answers(1032, "put", 2, i, 5);
            s.finds(Check.BEYOND, "put", 2, n, 5);
        }
        Check.about("8: a TEXT that was there has n blanks as well");
        Scene s = Scene.bare().text(1, "abc").text(2, "d");
        for (int i = 0; i < 3; i++) s.copy().call("text", 1, 3).answers(1032, "put", 1, i, 0);
        Scene less = s.copy().gives(1, "text", 1, 1);
        less.answers(1032, "put", 1, 0, 0);
        less.finds(Check.BEYOND, "put", 1, 1, 0);
        for (int i = 0; i < 4; i++) less.copy().gives(4, "text", 1, 4).answers(1032, "put", 1, i, 0);
        less.answers(1000 + 'd', "put", 2, 0, 0);
    }

    private static void textRefused() {
        Scene s = Scene.busy();
        Check.about("8: BAD: also n above 120");
        s.answers(120, "text", 1, 120);
        for (int n : new int[] {121, 122, MAX}) {
            s.refuses(Check.BAD, "text", 1, n);
            s.refuses(Check.BAD, "text", 3, n);
        }
        Check.about("8: SIZE: below 0");
        s.answers(0, "text", 1, 0);
        for (int n : new int[] {-1, -2, MIN}) {
            s.finds(Check.SIZE, "text", 1, n);
            s.finds(Check.SIZE, "text", 3, n);
        }
        s.copy().call("text", 3, -1).finds(Check.NOTHING, "put", 3, 0, 0);
    }

    private static void put() {
        Check.about("9: Byte i of a TEXT is v, cut to a byte: what it was, and 1000 more");
        int[] v = {0, 1, -1, 127, 128, -128, -129, 255, 256, 257, 32 + 256, 32 - 256, 65536 + 65, MAX, MIN};
        int[] is = {0, 1, -1, 127, -128, -128, 127, -1, 0, 1, 32, 32, 65, -1, 0};
        Scene s = Scene.bare().text(3, "abc");
        for (int k = 0; k < v.length; k++) {
            for (int i = 0; i < 3; i++) {
                Scene done = s.copy().gives(1000 + 'a' + i, "put", 3, i, v[k]);
                for (int j = 0; j < 3; j++) done.answers(1000 + (i == j ? is[k] : 'a' + j), "put", 3, j, 0);
            }
        }
        s.copy().gives(1097, "put", 3, 0, 9).answers(0, "asked");
        Scene.bare().call("text", 0, 120).gives(1032, "put", 0, 119, 7).answers(1007, "put", 0, 119, 7);
    }

    private static void putRefused() {
        Scene s = Scene.busy();
        Check.about("9: NOTHING");
        for (int i : new int[] {0, -1, 120, MIN, MAX}) s.finds(Check.NOTHING, "put", 3, i, 65);
        Check.about("9: BEYOND");
        s.answers(1000 + 'x', "put", 1, 9, 65);
        for (int i : new int[] {-1, 10, 11, 120, MIN, MAX}) s.finds(Check.BEYOND, "put", 1, i, 65);
        for (int i : new int[] {-1, 0, 1}) s.finds(Check.BEYOND, "put", 2, i, 65);
        Scene.bare().call("text", 0, 120).finds(Check.BEYOND, "put", 0, 120, 65);
    }
}
