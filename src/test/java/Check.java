/** What the tests share: answers are counted, wrong ones told, texts laid down. */
final class Check {
    static final int BAD = -1, FULL = -2, FINDING = -3, STATE = -4, SPENT = -6, NONE = -9;
    static final int NOTHING = 1, BEYOND = 2, UNLIKE = 3, NOUGHT = 4, SIZE = 5;

    private static int done = 0;
    private static int wrong = 0;
    private static int sentences = 0;
    private static int doneBefore = 0;
    private static String sentence = "";
    private static String printed = "";

    private Check() {
    }

    /** The sentence of the document that the answers from here on are due by. */
    static void about(String words) {
        closeSentence();
        sentence = words;
        sentences++;
    }

    private static void closeSentence() {
        if (!sentence.isEmpty() && done == doneBefore) due("nothing", 1, 0);
        doneBefore = done;
    }

    /** The answer of a call against the one that is due. */
    static void due(String what, long want, long got) {
        due(() -> what, want, got);
    }

    /** The same, where the words are dear: they are put together only for a wrong answer. */
    static void due(java.util.function.Supplier<String> what, long want, long got) {
        done++;
        if (got == want) return;
        wrong++;
        if (wrong > 40) return;
        if (!sentence.isEmpty() && !sentence.equals(printed)) System.out.println("[" + sentence + "]");
        printed = sentence;
        System.out.println(what.get() + " answered " + got + ", due is " + want);
    }

    /** A call that answers 1 and tells a value by asked(). */
    static void tells(FrameSheets x, String what, int want, int got) {
        due(what, 1, got);
        due(what + ", asked()", want, x.asked());
    }

    /** A call that answers itself and tells another value by asked(). */
    static void tellsToo(FrameSheets x, String what, int want, int wantAsked, int got) {
        due(what, want, got);
        due(what + ", asked()", wantAsked, x.asked());
    }

    /** A call that is refused by a finding, which is counted once. */
    static void finds(FrameSheets x, String what, int finding, java.util.function.IntSupplier call) {
        int before = x.findings(finding);
        due(what, FINDING, call.getAsInt());
        due(what + ", finding()", finding, x.finding());
        due(what + ", findings()", before + 1, x.findings(finding));
    }

    /** A call whose answer is due and that changes nothing that digest(), asked(), finding() tell. */
    static void leaves(FrameSheets x, String what, int want, java.util.function.IntSupplier call) {
        long digest = x.digest();
        int asked = x.asked();
        int finding = x.finding();
        due(what, want, call.getAsInt());
        due(what + " leaves digest()", digest, x.digest());
        due(what + " leaves asked()", asked, x.asked());
        due(what + " leaves finding()", finding, x.finding());
    }

    static void lay(FrameSheets x, int t, String text) {
        x.text(t, text.length());
        for (int i = 0; i < text.length(); i++) x.put(t, i, text.charAt(i));
    }

    /** A new object with a sheet by TEXT 0. */
    static FrameSheets sheet(String text) {
        FrameSheets x = new FrameSheets();
        lay(x, 0, text);
        int frames = x.sheet(0);
        if (frames < 1) due("sheet of " + text, 1, frames);
        return x;
    }

    /** PAGE, x, y and TURNED of a FRAME, in one number; NONE if it is not SET. */
    static int spot(FrameSheets x, int f) {
        int sum = 0;
        for (int what = 0; what < 4; what++) {
            if (x.place(f, what) != 1) return NONE;
            sum = sum * 100 + x.asked();
        }
        return sum;
    }

    /** x, y, how wide, how high of a FREE rectangle, in one number; NONE if there is none. */
    static int rectangle(FrameSheets x, int page, int k) {
        int sum = 0;
        for (int what = 0; what < 4; what++) {
            int answer = x.free(page, k, what);
            if (answer != 1) return answer;
            sum = sum * 100 + x.asked();
        }
        return sum;
    }

    static void end() {
        closeSentence();
        System.out.println((sentences == 0 ? "" : sentences + " sentences, ") + done + " answers, " + wrong + " wrong");
        if (wrong != 0 || done == 0) System.exit(1);
    }
}
