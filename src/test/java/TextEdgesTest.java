/** Boundary cases of promises 10 to 12 and of what Terms 1 says of texts, sentence by sentence. */
public final class TextEdgesTest {
    private static final int NONE = Check.NONE;
    private static final String PAGE = "page 4 4;", ONE = "icon 1 1 0 0 0 0;";

    public static void main(String[] args) {
        sidesOfPages();
        bleed();
        frames();
        sidesOfFrames();
        empty();
        emptyTogether();
        blanks();
        blanksAreNoOthers();
        statementsEnd();
        pageFirst();
        bleedOnce();
        letters();
        figures();
        wordsThatAreNone();
        tokensThatCannotStand();
        numbersThatAreHuge();
        firstFault();
        endTooEarly();
        faultRefused();
        sheet();
        sheetRefused();
        sheetAnew();
        write();
        writeBleed();
        writeSpent();
        writeRefused();
        Check.end();
    }

    /** A FAULT, and that sheet() takes the TEXT just if there is none. */
    private static void fault(int want, String text) {
        Scene s = Scene.bare().text(1, text);
        s.answers(want, "fault", 1);
        if (want == NONE) s.changesNothing("fault", 1);
        else s.refuses(Check.STATE, "sheet", 1);
    }

    private static void frames(int want, String text) {
        fault(NONE, text);
        Scene.bare().text(1, text).gives(want, "sheet", 1).answers(want, "count", 0);
    }

    private static void sidesOfPages() {
        Check.about("Terms 1: WIDE and HIGH (4 .. 16 each)");
        for (int n : new int[] {0, 1, 3, 17, 18, 99}) {
            fault(5, "page " + n + " 4;" + ONE);
            fault(5, "page " + n + " 99;" + ONE);
            fault(7, "page 4 " + n + ";" + ONE);
            fault(8, "page 16 " + n + ";" + ONE);
        }
        for (int n : new int[] {4, 5, 9, 10, 15, 16}) {
            Scene wide = Scene.sheet("page " + n + " 4;" + ONE);
            wide.answers(n, "count", 3);
            wide.answers(4, "count", 4);
            Scene high = Scene.sheet("page 4 " + n + ";" + ONE);
            high.answers(4, "count", 3);
            high.answers(n, "count", 4);
        }
    }

    private static void bleed() {
        Check.about("Terms 1: BLEED (0 .. 2; 0 if it is not told)");
        for (int n : new int[] {3, 4, 10, 99}) fault(15, PAGE + "bleed " + n + ";" + ONE);
        for (int n = 0; n <= 2; n++) {
            Scene s = Scene.sheet(PAGE + "bleed " + n + ";" + ONE);
            s.answers(n, "count", 5);
            s.tells(1, 1 + 2 * n, "frame", 0, 3);
        }
        Scene s = Scene.sheet(PAGE + ONE);
        s.answers(0, "count", 5);
        s.tells(1, 1, "frame", 0, 3);
        Scene behind = Scene.sheet(PAGE + "bleed 2;" + ONE).text(0, PAGE + ONE).gives(1, "sheet", 0);
        behind.answers(0, "count", 5);
        behind.tells(1, 1, "frame", 0, 3);
        for (String other : new String[] {PAGE + "bleed 2;" + ONE, PAGE + "bleed 2;" + ONE + "x", PAGE + "bleed 2;"}) {
            Scene read = Scene.bare().text(1, other).text(0, PAGE + ONE).call("fault", 1).gives(1, "sheet", 0);
            read.answers(0, "count", 5);
            read.tells(1, 1, "frame", 0, 3);
            read.call("fault", 1).gives(1, "sheet", 0).call("sheet", 1).gives(1, "sheet", 0).answers(0, "count", 5);
            read.tells(1, 1, "frame", 0, 3);
        }
    }

    /** Seven are the most that 120 bytes can tell, so an eighth and a ninth can't be tried. */
    private static void frames() {
        Check.about("Terms 1: FRAMES (1 to 8)");
        fault(9, PAGE);
        fault(17, PAGE + "bleed 1;");
        for (int n = 1; n <= 7; n++) frames(n, "page4 4;" + "icon1 1 0 0 0 0;".repeat(n));
        Check.about("Terms 1: FRAMES 0, 1, .. as they come");
        Scene s = Scene.sheet(PAGE + "logo 1 1 0 0 0 0;bleed 0;border 1 1 0 0 0 0;frame 1 1 0 0 0 0;icon 1 1 0 0 0 0;");
        int[] kinds = {3, 2, 0, 1};
        for (int f = 0; f < 4; f++) s.tells(1, kinds[f], "frame", f, 0);
        s.refuses(Check.BAD, "frame", 4, 0);
    }

    private static void sidesOfFrames() {
        Check.about("Terms 1: w and h (1 .. 16 each)");
        for (String word : new String[] {"frame", "icon", "border", "logo"}) {
            int w = PAGE.length() + word.length() + 1;
            for (int n : new int[] {0, 17, 18, 99}) {
                fault(w, PAGE + word + " " + n + " 1 0 0 0 0;");
                fault(w, PAGE + word + " " + n + " 99 0 0 0 0;");
                fault(w + 2, PAGE + word + " 1 " + n + " 0 0 0 0;");
                fault(w + 3, PAGE + word + " 16 " + n + " 0 0 0 0;");
            }
            for (int n : new int[] {1, 2, 15, 16}) {
                Scene.sheet(PAGE + word + " " + n + " 1 0 0 0 0;").tells(1, n, "frame", 0, 1);
                Scene.sheet(PAGE + word + " 1 " + n + " 0 0 0 0;").tells(1, n, "frame", 0, 2);
            }
        }
    }

    private static void empty() {
        Check.about("Terms 1: empty on the left, above, on the right, below (0 .. 9 each)");
        for (int side = 0; side < 4; side++) {
            for (int n = 0; n <= 12; n++) {
                String[] four = {"0", "0", "0", "0"};
                four[side] = "" + n;
                String text = PAGE + "frame 16 16 " + String.join(" ", four) + ";";
                fault(n <= 9 ? NONE : 21 + 2 * side, text);
                if (n > 9) continue;
                Scene.sheet(text).tells(1, side % 2 == 0 ? 16 - n : 16, "frame", 0, 1);
                Scene.sheet(text).tells(1, side % 2 == 1 ? 16 - n : 16, "frame", 0, 2);
            }
        }
    }

    private static void emptyTogether() {
        Check.about("Terms 1: less than w, than h both together; FAULT: right, below, if they with left, above are not less");
        for (int side = 0; side < 2; side++) {
            for (int size : new int[] {1, 2, 3, 9, 10, 16}) {
                for (int before = 0; before <= 9; before++) {
                    for (int behind = 0; behind <= 9; behind++) {
                        int[] n = {16, 16, 0, 0, 0, 0};
                        n[side] = size;
                        n[2 + side] = before;
                        n[4 + side] = behind;
                        fault(before + behind < size ? NONE : where(n, 4 + side), PAGE + "icon" + words(n) + ";");
                    }
                }
            }
        }
        fault(22, PAGE + "icon 3 3 1 1 2 2;");
        fault(24, PAGE + "icon 3 3 1 1 1 2;");
        fault(NONE, PAGE + "icon 3 3 1 1 1 1;");
        fault(22, PAGE + "icon 1 1 9 9 0 0;");
        fault(22, PAGE + "logo 3 3 3 0 0 0;");
        fault(24, PAGE + "logo 3 3 0 3 0 0;");
    }

    private static String words(int[] n) {
        StringBuilder s = new StringBuilder();
        for (int v : n) s.append(' ').append(v);
        return s.toString();
    }

    private static int where(int[] n, int k) {
        return PAGE.length() + 5 + words(java.util.Arrays.copyOf(n, k)).length();
    }

    private static void blanks() {
        Check.about("Terms 1: blanks (32) ahead, between TOKENS, behind as many as wanted");
        String[] tokens = {"", "page", "4", "5", ";", "bleed", "1", ";", "icon", "3", "2", "1", "0", "0", "0", ";", ""};
        for (int at = 0; at < tokens.length - 1; at++) {
            for (int more : new int[] {1, 2, 40}) {
                StringBuilder s = new StringBuilder();
                for (int i = 0; i < tokens.length - 1; i++) {
                    s.append(tokens[i]);
                    boolean numbers = isNumber(tokens[i]) && isNumber(tokens[i + 1]);
                    s.append(" ".repeat(i == at ? more : numbers ? 1 : 0));
                }
                frames(1, s.toString());
                Scene.sheet(s.toString()).answers(34, "write", 0);
            }
        }
        frames(1, "page4 4;icon1 1 0 0 0 0;");
        frames(1, " ".repeat(96) + "page4 4;icon1 1 0 0 0 0;");
        frames(1, "page4 4;icon1 1 0 0 0 0;" + " ".repeat(96));
        Check.about("Terms 1: TOKENS are side by side: no blank in them");
        fault(0, "pa ge 4 4;" + ONE);
        fault(5, "page 1 6 4;" + ONE);
        fault(9, "page 4 4 ,");
        fault(PAGE.length(), PAGE + "ic on 1 1 0 0 0 0;");
        fault(PAGE.length(), PAGE + "iconicon 1 1 0 0 0 0;");
        fault(5, "page 44;" + ONE);
    }

    private static boolean isNumber(String token) {
        return !token.isEmpty() && Character.isDigit(token.charAt(0));
    }

    private static void blanksAreNoOthers() {
        Check.about("FAULT: of a byte that begins no TOKEN that one's");
        String text = "page4 4;icon1 1 0 0 0 0;";
        for (int b = 0; b < 256; b++) {
            boolean begins = b == ' ' || b == ';' || b >= '0' && b <= '9' || b >= 'a' && b <= 'z';
            if (begins) continue;
            fault(0, (char) b + text);
            fault(5, "page4" + (char) b + " 4;icon1 1 0 0 0 0;");
            fault(2, "  " + (char) b);
            fault(text.length(), text + (char) b);
            fault(text.length() + 1, text + " " + (char) b + text);
        }
    }

    private static void statementsEnd() {
        Check.about("Terms 1: STATEMENTS, each ended by ; (59)");
        fault(9, "page 4 4 icon 1 1 0 0 0 0;");
        fault(9, "page 4 4;;icon 1 1 0 0 0 0;");
        fault(17, PAGE + "bleed 1 icon 1 1 0 0 0 0;");
        fault(26, PAGE + ONE + ";");
        fault(25, PAGE + "icon 1 1 0 0 0 0");
        fault(26, PAGE + "icon 1 1 0 0 0 0 icon 1 1 0 0 0 0;");
        fault(25, PAGE + "icon 1 1 0 0 0 0:");
        fault(25, PAGE + "icon 1 1 0 0 0 0<");
        fault(8, "page 4 4:" + ONE);
        fault(8, "page 4 4<" + ONE);
        fault(8, "page 4 4{" + ONE);
        fault(0, ";" + PAGE + ONE);
    }

    private static void pageFirst() {
        Check.about("Terms 1: page first of all, once; FAULT: page but first");
        fault(0, ONE + PAGE);
        fault(0, "bleed 1;" + PAGE + ONE);
        fault(2, "  bleed 1;" + PAGE + ONE);
        fault(9, PAGE + PAGE + ONE);
        fault(26, PAGE + ONE + PAGE);
        fault(17, PAGE + "bleed 1;" + PAGE + ONE);
        fault(26, PAGE + ONE + "page");
        frames(1, PAGE + ONE);
        frames(1, "  " + PAGE + ONE);
    }

    private static void bleedOnce() {
        Check.about("Terms 1: bleed BLEED (once at most); FAULT: bleed again");
        String bleed = "bleed 1;";
        String two = ONE + ONE;
        frames(2, PAGE + two);
        for (int at = 0; at <= 2; at++) {
            String text = PAGE + ONE.repeat(at) + bleed + ONE.repeat(2 - at);
            frames(2, text);
            Scene s = Scene.sheet(text);
            s.answers(1, "count", 5);
            for (int f = 0; f < 2; f++) s.tells(1, 3, "frame", f, 3);
        }
        fault(17, PAGE + bleed + bleed + two);
        fault(17, PAGE + "bleed 0;bleed 0;" + two);
        fault(17, PAGE + "bleed 0;bleed 1;" + two);
        fault(17, PAGE + bleed + "bleed 9;" + two);
        fault(51, PAGE + bleed + two + bleed);
        fault(34, PAGE + ONE + bleed + bleed);
        fault(17, PAGE + bleed + "bleed");
    }

    private static void letters() {
        Check.about("Terms 1: WORDS (letters a .. z side by side)");
        fault(0, "Page 4 4;" + ONE);
        fault(0, "pagE 4 4;" + ONE);
        for (char c : new char[] {'`', '{', '@', '[', 'A', 'Z', 'a' + 128, 'z' + 128}) {
            fault(4, "page" + c + "4 4;" + ONE);
            fault(9, PAGE + c + ONE);
            fault(13, PAGE + "icon" + c + "1 1 0 0 0 0;");
        }
        for (char c : new char[] {'a', 'b', 'y', 'z'}) {
            fault(0, "page" + c + "4 4;" + ONE);
            fault(9, PAGE + c + ONE);
            fault(9, PAGE + "icon" + c + " 1 1 0 0 0 0;");
        }
    }

    private static void figures() {
        Check.about("Terms 1: NUMBERS (figures side by side)");
        for (char c : new char[] {'/', ':', '.', '-', '+', ',', '0' + 128, '9' + 128}) {
            fault(6, "page 4" + c + " 4;" + ONE);
            fault(5, "page " + c + "4 4;" + ONE);
            fault(8, "page 4 4" + c + ONE);
        }
        for (int n = 0; n <= 9; n++) {
            Scene s = Scene.sheet(PAGE + "frame 16 16 " + n + " " + n + " 0 0;");
            s.tells(1, 16 - n, "frame", 0, 1);
            s.tells(1, 16 - n, "frame", 0, 2);
        }
        frames(1, "page 04 0016;icon 01 00001 00 00 00 0;");
        Scene.sheet("page 04 0016;icon 01 00001 00 00 00 0;").answers(27, "write", 3);
        fault(5, "page 00 4;" + ONE);
        fault(5, "page 003 4;" + ONE);
        fault(5, "page 017 4;" + ONE);
    }

    private static void wordsThatAreNone() {
        Check.about("FAULT: a WORD that is none");
        for (String w : new String[] {"p", "pag", "pagee", "paga", "pbge", "apage", "pages", "icon", "x"}) fault(0, w + " 4 4;" + ONE);
        for (String w : new String[] {"frame", "icon", "border", "logo", "bleed"}) {
            String numbers = w.equals("bleed") ? " 1;" : " 1 1 0 0 0 0;";
            frames(w.equals("bleed") ? 1 : 2, PAGE + w + numbers + ONE);
            fault(9, PAGE + w.substring(1) + numbers + ONE);
            fault(9, PAGE + w.substring(0, w.length() - 1) + numbers + ONE);
            fault(9, PAGE + w + w.charAt(w.length() - 1) + numbers + ONE);
            fault(9, PAGE + "a" + w + numbers + ONE);
            for (int i = 0; i < w.length(); i++) {
                fault(9, PAGE + w.substring(0, i) + (char) (w.charAt(i) ^ 1) + w.substring(i + 1) + numbers + ONE);
            }
        }
    }

    private static void tokensThatCannotStand() {
        Check.about("FAULT: the first byte of the first TOKEN that can't stand there");
        String[] good = {"page", "4", "5", ";", "bleed", "1", ";", "frame", "3", "2", "1", "0", "0", "0", ";"};
        for (int at = 0; at < good.length; at++) {
            for (String other : new String[] {"page", "icon", "zebra", "7", ";"}) {
                if (other.equals(good[at]) || at == 7 && other.equals("icon") || isNumber(good[at]) && isNumber(other)) continue;
                if (at == 4 && other.equals("icon")) continue;
                StringBuilder s = new StringBuilder();
                int where = 0;
                for (int i = 0; i < good.length; i++) {
                    if (i == at) where = s.length();
                    s.append(i == at ? other : good[i]).append(' ');
                }
                fault(where, s.toString());
            }
        }
        fault(16, PAGE + "bleed 1bleed 1;");
        fault(17, PAGE + "bleed 1 1;" + ONE);
        fault(26, PAGE + "icon 1 1 0 0 0 0 0;");
        fault(23, PAGE + "icon 1 1 0 0 0;");
        fault(26, PAGE + ONE + "5;");
        fault(14, PAGE + "bleed;" + ONE);
    }

    private static void numbersThatAreHuge() {
        Check.about("FAULT: a NUMBER out of those that may be, however large");
        String[] huge = {
            "100", "1000", "2147483647", "2147483648", "4294967296", "4294967300", "4294967297", "18446744073709551616",
            "18446744073709551620", "18446744073709551617", "99999999999999999999999999",
        };
        for (String n : huge) {
            fault(5, "page " + n + " 4;" + ONE);
            fault(7, "page 4 " + n + ";" + ONE);
            fault(15, PAGE + "bleed " + n + ";" + ONE);
            fault(14, PAGE + "icon " + n + " 1 0 0 0 0;");
            fault(16, PAGE + "icon 1 " + n + " 0 0 0 0;");
            for (int side = 0; side < 4; side++) {
                String[] four = {"0", "0", "0", "0"};
                four[side] = n;
                fault(20 + 2 * side, PAGE + "icon 16 16 " + String.join(" ", four) + ";");
            }
        }
    }

    private static void firstFault() {
        Check.about("FAULT: of more than one the first");
        fault(5, "page 3 3;" + ONE);
        fault(5, "page 3 @;" + ONE);
        fault(5, "page @ 3;" + ONE);
        fault(7, "page 4 @3;x");
        fault(14, PAGE + "icon 0 0 99 99 99 99;");
        fault(18, PAGE + "icon 1 1 99 99 99 99;");
        fault(20, PAGE + "icon 1 1 9 99 99 99;");
        fault(22, PAGE + "icon 1 1 9 9 99 99;");
        fault(9, PAGE + "x @");
        fault(9, PAGE + "@ x");
        fault(0, "@");
        fault(0, "@" + PAGE + ONE);
    }

    private static void endTooEarly() {
        Check.about("FAULT: the TEXT's size, if its end comes too early");
        String text = "page 4 4;frame 1 1 0 0 0 0;";
        for (int k = 0; k <= text.length(); k++) {
            int want = k < 4 ? 0 : k <= 9 ? k : k < 14 ? 9 : k < 27 ? k : NONE;
            fault(k == 0 ? 0 : want, text.substring(0, k));
            if (want != k || k == 9) continue;
            fault(k + 5, text.substring(0, k) + "     ");
        }
        fault(0, "");
        for (int n : new int[] {1, 2, 119, 120}) fault(n, " ".repeat(n));
        fault(120, "page4 4;" + " ".repeat(112));
        fault(120, text.substring(0, 26) + " ".repeat(94));
        Check.about("FAULT: the TEXT's size, if there is no FRAME");
        fault(9, PAGE);
        fault(12, PAGE + "   ");
        fault(17, PAGE + "bleed 0;");
        fault(19, PAGE + "bleed 2;  ");
    }

    private static void faultRefused() {
        Check.about("10: NOTHING");
        Scene s = Scene.busy();
        s.finds(Check.NOTHING, "fault", 3);
        Check.about("10: NONE: there is none; a FAULT of a TEXT changes nothing");
        s.refuses(NONE, "fault", 0);
        s.refuses(9, "fault", 1);
        s.refuses(0, "fault", 2);
    }

    private static void sheet() {
        Check.about("11: A SHEET by a TEXT: how many FRAMES");
        Scene s = Scene.bare().text(3, PAGE + "bleed 2;" + ONE + ONE + ONE);
        s.answers(0, "count", 0);
        s.gives(3, "sheet", 3).answers(3, "count", 0);
        int[] want = {3, 0, 0, 4, 4, 2, 0, 0, 0, 0, 0, 0, 1, 0};
        for (int what = 0; what < 14; what++) s.answers(want[what], "count", what);
        Check.about("11: the SHEET stays when its TEXT is changed");
        Scene changed = s.copy().call("put", 3, 0, 'x');
        changed.answers(3, "count", 0);
        changed.answers(0, "fault", 3);
        changed.copy().call("text", 3, 0).answers(17 + 51, "write", 0);
    }

    private static void sheetRefused() {
        Check.about("11: STATE: a FAULT");
        Scene s = Scene.busy();
        s.refuses(Check.STATE, "sheet", 1);
        s.refuses(Check.STATE, "sheet", 2);
        s.copy().text(3, "page 9 9;icon 2 2 0 0 0 0;bleed 2;icon 2 2 0 0 0 0").refuses(Check.STATE, "sheet", 3);
        s.copy().text(3, "page 9 9;bleed 0;").refuses(Check.STATE, "sheet", 3);
        Scene.bare().text(0, PAGE).refuses(Check.STATE, "sheet", 0);
        Check.about("11: STATE behind NOTHING");
        s.finds(Check.NOTHING, "sheet", 3);
        Scene.bare().finds(Check.NOTHING, "sheet", 0);
    }

    private static void sheetAnew() {
        Check.about("11: anew: no FRAME SET, RULE 0, no DEEDS; kept SHEETS go");
        Scene busy = Scene.busy().call("keep", 2);
        busy.answers(3, "count", 13);
        Scene s = busy.copy().gives(5, "sheet", 0);
        for (int what : new int[] {1, 2, 6, 7, 8, 9, 10, 13}) s.answers(0, "count", what);
        for (int f = 0; f < 5; f++) s.refuses(NONE, "place", f, 0);
        for (int k = 0; k < 3; k++) s.finds(Check.NOTHING, "on", k);
        s.answers(0, "undo", 0);
        s.refuses(Check.BAD, "undo", 1);
        s.refuses(Check.BAD, "used", 0);
        s.answers(5, "asked");
        s.answers(3, "count", 11);
        s.answers(3, "count", 12);
        Check.about("11: a SHEET by another TEXT is just that one");
        Scene other = busy.copy().text(3, "page 9 8;" + ONE).gives(1, "sheet", 3);
        int[] want = {1, 0, 0, 9, 8, 0, 0, 0, 0, 0, 0, 3, 4, 0};
        for (int what = 0; what < 14; what++) other.answers(want[what], "count", what);
        other.refuses(Check.BAD, "frame", 1, 0);
        other.refuses(Check.BAD, "set", 1);
    }

    private static void written(String want, String text) {
        Scene s = Scene.sheet(text);
        for (int t = 0; t < 4; t++) {
            Scene done = s.copy().gives(want.length(), "write", t);
            done.answers(t == 0 ? 1 : 2, "count", 12);
            for (int i = 0; i < want.length(); i++) done.answers(1000 + want.charAt(i), "put", t, i, 0);
            done.finds(Check.BEYOND, "put", t, want.length(), 0);
            done.answers(NONE, "fault", t);
        }
    }

    private static void write() {
        Check.about("12: page, bleed (if it is not 0), FRAMES by numbers; a blank between TOKENS, none ahead of ; nor behind");
        written("page 4 16;icon 1 10 0 9 0 0;", "  page  4  16 ;icon1 10 0 9 0 0  ;  ");
        written("page 10 9;bleed 1;logo 16 9 9 8 6 0;border 10 1 0 0 9 0;frame 1 1 0 0 0 0;",
                "page010 9;logo16 9 9 8 6 0;border10 1 0 0 9 0;frame1 1 0 0 0 0;bleed1;");
        Check.about("12: a TEXT is there with it, whatever was there");
        Scene s = Scene.sheet(PAGE + ONE).text(1, "x").text(2, "y".repeat(40));
        s.copy().gives(26, "write", 1).answers(NONE, "fault", 1);
        Scene shorter = s.copy().gives(26, "write", 2);
        shorter.answers(NONE, "fault", 2);
        shorter.finds(Check.BEYOND, "put", 2, 26, 0);
        s.copy().call("put", 0, 0, 0).gives(26, "write", 0).answers(NONE, "fault", 0);
        Check.about("12: the SHEET is written out anew each time");
        s.gives(26, "write", 3).gives(26, "write", 3).gives(26, "write", 1).answers(NONE, "fault", 1);
        s.copy().text(0, "page4 4;" + "icon1 1 0 0 0 0;".repeat(7)).call("sheet", 0).call("write", 3).refuses(Check.SPENT, "write", 3);
        s.copy().text(0, "page4 4;" + "icon1 1 0 0 0 0;".repeat(7)).call("sheet", 0).call("write", 0).call("sheet", 1).answers(26, "write", 0);
    }

    private static void writeBleed() {
        Check.about("12: bleed (if it is not 0)");
        written(PAGE + ONE, PAGE + ONE);
        written(PAGE + ONE, PAGE + "bleed 0;" + ONE);
        written(PAGE + "bleed 1;" + ONE, PAGE + "bleed 1;" + ONE);
        written(PAGE + "bleed 2;" + ONE, PAGE + ONE + "bleed 2;");
    }

    private static void writeSpent() {
        Check.about("12: SPENT: it would be more than 120");
        String five = "icon16 1 0 0 0 0;".repeat(5);
        Scene.sheet("page16 16;" + five + "icon16 1 0 0 0 0;").answers(119, "write", 1);
        Scene.sheet("page16 16;" + five + "icon16 16 0 0 0 0;").answers(120, "write", 1);
        written("page 16 16;" + "icon 16 1 0 0 0 0;".repeat(5) + "icon 16 16 0 0 0 0;", "page16 16;" + five + "icon16 16 0 0 0 0;");
        Scene more = Scene.sheet("page16 16;" + five + "frame16 16 0 0 0 0;");
        for (int t = 0; t < 4; t++) more.refuses(Check.SPENT, "write", t);
        Scene most = Scene.sheet("page4 4;" + "icon1 1 0 0 0 0;".repeat(7)).text(1, "x");
        for (int t = 0; t < 4; t++) most.refuses(Check.SPENT, "write", t);
        most.refuses(Check.BAD, "write", 4);
    }

    private static void writeRefused() {
        Check.about("12: STATE: no SHEET");
        Scene s = Scene.bare().text(0, PAGE + ONE).text(1, PAGE);
        for (int t = 0; t < 4; t++) s.refuses(Check.STATE, "write", t);
        s.copy().call("sheet", 1).refuses(Check.STATE, "write", 2);
        s.copy().call("sheet", 0).answers(26, "write", 2);
        Check.about("12: write changes a TEXT and nothing else");
        Scene busy = Scene.busy();
        Scene done = busy.copy().call("write", 0);
        for (int what = 0; what < 14; what++) done.answers(busy.play().count(what), "count", what);
        done.answers(5, "asked");
        done.answers(busy.play().digest(), "digest");
    }
}
