import java.util.Random;

/** All promises: long runs of calls of every kind, answered by the class and by the model. */
public final class ModelTest {
    private static final int RUNS = 1500, CALLS = 512;

    private final Random dice;
    private final FrameSheets x = new FrameSheets();
    private final Model model = new Model();
    private final StringBuilder log = new StringBuilder();
    private boolean wrong = false;
    private int calls = 0;

    private ModelTest(long seed) {
        dice = new Random(seed);
    }

    public static void main(String[] args) {
        for (int seed = 0; seed < RUNS; seed++) {
            ModelTest run = new ModelTest(seed);
            run.go();
            Check.due("run " + seed + (run.wrong ? ":" + run.log : ""), 0, run.wrong ? 1 : 0);
            if (run.wrong) break;
        }
        Check.end();
    }

    private void go() {
        while (calls < CALLS && !wrong) {
            int what = dice.nextInt(100);
            if (calls == 0 || what == 0) newSheet();
            else if (what < 10) rowCall();
            else if (what < 14) textCall();
            else if (what < 20) same("place", f(), n(-1, 4));
            else same(CHOICES[dice.nextInt(CHOICES.length)]);
            if (dice.nextInt(8) == 0) check();
        }
        check();
    }

    /** Deeds oftener than the rest, so that pages are full of frames. */
    private static final String[] CHOICES = {
        "set", "set", "set", "set", "lift", "lift", "all", "rule", "rule", "undo", "keep", "on", "free", "free",
        "seen", "seen", "point", "point", "used", "takes", "would", "best", "lots", "frame", "mark", "count",
        "findings", "write", "sheet", "fault",
    };

    private int n(int least, int most) {
        int way = dice.nextInt(200);
        if (way == 0) return Integer.MAX_VALUE;
        if (way == 1) return Integer.MIN_VALUE;
        return least + dice.nextInt(most - least + 1);
    }

    private int f() {
        return dice.nextInt(12) == 0 ? n(-2, 9) : dice.nextInt(Math.max(1, model.count(0)));
    }

    /** Mostly a number below a bound. */
    private int upTo(int bound) {
        return dice.nextInt(12) == 0 ? n(-1, 17) : dice.nextInt(Math.max(1, bound));
    }

    private int page() {
        return dice.nextInt(12) == 0 ? n(-1, 8) : dice.nextInt(Math.max(1, model.count(2)));
    }

    private int text() {
        return dice.nextInt(15) == 0 ? n(-1, 4) : dice.nextInt(2);
    }

    private void check() {
        same("digest");
        same("asked");
        same("finding");
        same("count", n(0, 13));
    }

    private void same(String call) {
        switch (call) {
            case "set", "lift" -> same(call, f());
            case "all" -> same(call, n(-1, 3));
            case "rule" -> same(call, n(-1, 4));
            case "undo" -> {
                if (dice.nextInt(3) == 0) same(call, dice.nextInt(4) == 0 ? n(-1, 41) : n(model.count(10) / 2, model.count(10) + 1));
            }
            case "keep", "on" -> same(call, n(0, dice.nextInt(6) == 0 ? 3 : 2));
            case "free" -> same(call, page(), n(-1, 8), n(0, dice.nextInt(6) == 0 ? 4 : 3));
            case "seen" -> same(call, page(), upTo(model.count(3)), upTo(model.count(4)));
            case "point" -> same(call, f(), upTo(5), upTo(5));
            case "used", "takes" -> same(call, page());
            case "would" -> same(call, n(-1, 4), n(-1, 3));
            case "lots" -> {
                if (dice.nextInt(3) == 0) same(call, n(0, dice.nextInt(5) == 0 ? 21 : 6), seed());
            }
            case "frame" -> same(call, f(), n(-1, 5));
            case "mark" -> same(call, f(), n(0, 4));
            case "count" -> same(call, n(-1, 14));
            case "findings" -> same(call, n(0, 6));
            case "write" -> same(call, text());
            case "sheet" -> {
                if (dice.nextInt(8) == 0) same(call, text());
            }
            case "fault" -> same(call, text());
            default -> same(call, new int[0]);
        }
    }

    private int seed() {
        return dice.nextInt(10) == 0 ? n(-1, 1) : 1 + dice.nextInt(2147483646);
    }

    private void rowCall() {
        int r = dice.nextInt(12) == 0 ? n(-1, 6) : dice.nextInt(3);
        switch (dice.nextInt(8)) {
            case 0 -> same("row", r, n(-1, dice.nextInt(4) == 0 ? 41 : 8));
            case 1, 2 -> same("lay", r, n(-1, 8), dice.nextBoolean() ? n(-50, 50) : dice.nextInt());
            case 3 -> same("at", r, n(-1, 8));
            case 4 -> same("tear", r);
            case 5, 6 -> same("copy", r, n(-1, 5), n(0, 3), n(-1, 5), n(-1, 5));
            default -> same("mean", r);
        }
    }

    private void textCall() {
        int t = 1 + dice.nextInt(3);
        if (dice.nextInt(4) == 0) same("text", dice.nextInt(9) == 0 ? 4 : t, n(-1, dice.nextInt(4) == 0 ? 121 : 30));
        else same("put", dice.nextInt(20) == 0 ? -1 : t, n(-1, 30), dice.nextBoolean() ? 32 + n(0, 90) : dice.nextInt());
        if (dice.nextInt(4) == 0) same("fault", t);
    }

    // ---- texts of sheets

    private void newSheet() {
        String text = sheetText();
        for (int tries = 0; tries < 20 && text.length() > 120; tries++) text = sheetText();
        if (text.length() > 120) text = text.substring(0, 120);
        boolean spoiled = calls > 0 && dice.nextInt(3) == 0;
        if (spoiled) text = spoil(text);
        int t = dice.nextInt(2);
        same("text", t, text.length());
        for (int i = 0; i < text.length() && !wrong; i++) {
            if (text.charAt(i) != ' ') same("put", t, i, text.charAt(i));
        }
        same("fault", t);
        same("sheet", t);
    }

    private String blanks(int least) {
        return " ".repeat(dice.nextInt(12) == 0 ? least + dice.nextInt(3) : least);
    }

    private String sheetText() {
        boolean tight = dice.nextInt(2) == 0;
        int side = dice.nextInt(3) == 0 ? 16 : 8;
        StringBuilder s = new StringBuilder(blanks(0) + "page" + blanks(tight ? 0 : 1));
        s.append(4 + dice.nextInt(side - 3)).append(blanks(1)).append(4 + dice.nextInt(side - 3)).append(blanks(0) + ";");
        int frames = 1 + dice.nextInt(7);
        int bleedAt = dice.nextInt(3) == 0 ? dice.nextInt(frames + 1) : -1;
        for (int i = 0; i <= frames; i++) {
            if (i == bleedAt) s.append("bleed" + blanks(tight ? 0 : 1)).append(dice.nextInt(3)).append(";");
            if (i < frames) s.append(frameText(tight, side));
        }
        return s.toString();
    }

    private String frameText(boolean tight, int side) {
        String[] words = {"frame", "icon", "border", "logo"};
        int most = dice.nextInt(6) == 0 ? 16 : side / 2 + 1;
        int w = 1 + dice.nextInt(most);
        int h = 1 + dice.nextInt(most);
        int left = dice.nextInt(Math.min(w, 4));
        int above = dice.nextInt(Math.min(h, 4));
        int right = dice.nextInt(Math.min(10, w - left));
        int below = dice.nextInt(Math.min(10, h - above));
        StringBuilder s = new StringBuilder(words[dice.nextInt(4)] + blanks(tight ? 0 : 1));
        for (int v : new int[] {w, h, left, above, right, below}) {
            s.append(dice.nextInt(30) == 0 ? "0" : "").append(v).append(blanks(1));
        }
        s.setLength(s.length() - 1);
        return s.append(blanks(0)).append(";").append(blanks(0)).toString();
    }

    private String spoil(String text) {
        StringBuilder s = new StringBuilder(text);
        int i = dice.nextInt(s.length());
        String signs = "0123456789; abdefgnoprx@{`/:";
        switch (dice.nextInt(5)) {
            case 0 -> s.deleteCharAt(i);
            case 1 -> s.setCharAt(i, signs.charAt(dice.nextInt(signs.length())));
            case 2 -> s.setLength(i);
            case 3 -> s.setCharAt(i, (char) (dice.nextInt(255) + 1));
            default -> {
                if (s.length() < 120) s.insert(i, signs.charAt(dice.nextInt(signs.length())));
            }
        }
        return s.toString();
    }

    // ---- one call on both

    private void same(String call, int... a) {
        if (wrong || calls >= CALLS) return;
        calls++;
        long want = Calls.ofModel(model, call, a);
        long got = Calls.ofClass(x, call, a);
        if (log.length() < 20000) {
            log.append("\n  ").append(call).append(java.util.Arrays.toString(a)).append(" = ").append(want);
        }
        if (want == got) return;
        wrong = true;
        log.append(", answered ").append(got);
    }
}
