import java.util.ArrayList;
import java.util.Arrays;
import java.util.List;

/**
 * A run of calls that is done anew on fresh objects: each question behind it has an object of its
 * own, and a call that is refused is compared, by all that can be asked, with a run without it.
 */
final class Scene {
    static final int MAX = Integer.MAX_VALUE, MIN = Integer.MIN_VALUE;
    /** What later calls of an object answer is free. */
    private static final int CALLS = 512;

    private record Step(String call, int... a) {
        String words() {
            return call + Arrays.toString(a).replace('[', '(').replace(']', ')');
        }
    }

    private final List<Step> steps = new ArrayList<>();
    private final FrameSheets live = new FrameSheets();

    // ---- what is done ahead of the questions

    static Scene bare() {
        return new Scene();
    }

    /** A SHEET by TEXT 0. */
    static Scene sheet(String text) {
        Scene s = new Scene().text(0, text);
        if (s.live.fault(0) != Check.NONE) Check.due("a sheet by '" + text + "'", Check.NONE, s.live.fault(0));
        return s.call("sheet", 0);
    }

    /** Something of everything: ROWS, TEXTS, FRAMES SET and not, DEEDS, kept SHEETS, findings. */
    static Scene busy() {
        return sheet("page 6 5;bleed 1;frame 3 2 1 0 0 0;icon 1 3 0 0 0 0;border 1 1 0 0 0 0;logo 3 2 1 1 0 0;frame 9 9 0 0 0 0;")
                .row(0, 5, -7, 9).row(1).row(2, 4, 4).text(1, "page 4 4;x").text(2, "")
                .call("set", 0).call("rule", 2).call("set", 1).call("keep", 0).call("set", 2).call("lift", 0)
                .call("keep", 1).call("all", 1).call("lift", 1).call("at", 5, 0).call("at", 0, 3).call("at", 0, 0);
    }

    Scene call(String call, int... a) {
        steps.add(new Step(call, a));
        if (steps.size() > CALLS) Check.due("calls of a scene", CALLS, steps.size());
        Calls.ofClass(live, call, a);
        return this;
    }

    /** Goes on with a call whose answer is due. */
    Scene gives(long want, String call, int... a) {
        answers(want, call, a);
        return call(call, a);
    }

    /** Goes on with the same call some times more. */
    Scene times(int n, String call, int... a) {
        for (int i = 0; i < n; i++) call(call, a);
        return this;
    }

    Scene text(int t, String text) {
        call("text", t, text.length());
        for (int i = 0; i < text.length(); i++) {
            if (text.charAt(i) != ' ') call("put", t, i, text.charAt(i));
        }
        return this;
    }

    Scene row(int r, int... values) {
        call("row", r, values.length);
        for (int i = 0; i < values.length; i++) call("lay", r, i, values[i]);
        return this;
    }

    /** DEEDS up to a number of them, by RULES that change; the last one is that number modulo 4. */
    Scene deeds(int n) {
        while (live.count(10) < n) call("rule", (live.count(6) + 1) % 4);
        return this;
    }

    int length() {
        return steps.size();
    }

    Scene copy() {
        Scene s = new Scene();
        for (Step step : steps) s.call(step.call, step.a);
        return s;
    }

    FrameSheets play() {
        FrameSheets x = new FrameSheets();
        for (Step s : steps) Calls.ofClass(x, s.call, s.a);
        return x;
    }

    private Model playModel() {
        Model x = new Model();
        for (Step s : steps) Calls.ofModel(x, s.call, s.a);
        return x;
    }

    // ---- questions, each on an object of its own

    /** The answer that is due; the model that other tests rely on has to give it, too. */
    void answers(long want, String call, int... a) {
        Step step = new Step(call, a);
        Check.due(() -> step.words() + behind(), want, Calls.ofClass(play(), call, a));
        Check.due(() -> "the model's " + step.words() + behind(), want, Calls.ofModel(playModel(), call, a));
    }

    /** An answer, and what asked() tells behind it. */
    void tells(long want, long asked, String call, int... a) {
        answers(want, call, a);
        copy().call(call, a).answers(asked, "asked");
    }

    /** PAGE, x, y and whether it is TURNED of a FRAME that is SET. */
    Scene isAt(int f, int page, int x, int y, int turned) {
        int[] want = {page, x, y, turned};
        for (int what = 0; what < 4; what++) tells(1, want[what], "place", f, what);
        return this;
    }

    /** The FREE rectangles of a PAGE, four numbers each: x, y, how wide, how high. */
    Scene isFree(int page, int... want) {
        for (int i = 0; i < want.length; i++) tells(1, want[i], "free", page, i / 4, i % 4);
        answers(Check.NONE, "free", page, want.length / 4, 0);
        return this;
    }

    /** Refused, but not by a finding, or NONE: the answer, and nothing is changed. */
    void refuses(int want, String call, int... a) {
        answers(want, call, a);
        compare(new Step(call, a), 0);
    }

    /** Refused by a finding: nothing is changed but finding() and findings(). */
    void finds(int finding, String call, int... a) {
        answers(Check.FINDING, call, a);
        compare(new Step(call, a), finding);
    }

    /** A call that is answered and changes nothing, but what it tells by asked(). */
    void changesNothing(String call, int... a) {
        compareGroups(new Step(call, a), 0, deedQuestions(), false);
    }

    // ---- the comparison

    private void compare(Step step, int finding) {
        List<List<Step>> groups = deedQuestions();
        groups.add(0, tellQuestions());
        groups.addAll(split(lookQuestions()));
        compareGroups(step, finding, groups, true);
    }

    private void compareGroups(Step step, int finding, List<List<Step>> groups, boolean withAsked) {
        for (List<Step> group : groups) {
            FrameSheets with = play();
            FrameSheets without = play();
            Calls.ofClass(with, step.call, step.a);
            for (Step q : group) {
                long want = Calls.ofClass(without, q.call, q.a);
                if (finding != 0 && q.call.equals("finding")) want = finding;
                if (q.call.equals("findings") && q.a[0] == finding) want++;
                long got = Calls.ofClass(with, q.call, q.a);
                Check.due(() -> "behind " + step.words() + ": " + q.words() + behind(), want, got);
                if (withAsked) {
                    Check.due(() -> "asked() behind " + step.words() + ", " + q.words() + behind(), without.asked(), with.asked());
                }
            }
        }
    }

    private static List<Step> tellQuestions() {
        List<Step> list = new ArrayList<>();
        list.add(new Step("asked"));
        list.add(new Step("finding"));
        for (int f = 1; f <= 5; f++) list.add(new Step("findings", f));
        for (int what = 0; what < 14; what++) list.add(new Step("count", what));
        list.add(new Step("digest"));
        return list;
    }

    private List<Step> lookQuestions() {
        List<Step> list = new ArrayList<>();
        for (int t = 0; t < 4; t++) list.add(new Step("fault", t));
        for (int f = 0; f < live.count(0); f++) {
            for (int what = 0; what < 5; what++) list.add(new Step("frame", f, what));
            for (int what = 0; what < 4; what++) list.add(new Step("place", f, what));
            for (int kind = 1; kind < 4; kind++) list.add(new Step("mark", f, kind));
            for (int i = 0; i < 3; i++) list.add(new Step("point", f, i, i));
        }
        for (int page = 0; page < live.count(2); page++) {
            for (int k = 0; k < 6; k++) for (int what = 0; what < 4; what++) list.add(new Step("free", page, k, what));
            for (int i = 0; i < live.count(3); i++) list.add(new Step("seen", page, i, i));
            list.add(new Step("used", page));
            list.add(new Step("takes", page));
        }
        for (int rule = 0; rule < 4; rule++) for (int order = 0; order < 3; order++) list.add(new Step("would", rule, order));
        list.add(new Step("best"));
        for (int r = 0; r < 6; r++) {
            for (int i = 0; i < 3; i++) list.add(new Step("at", r, i));
            list.add(new Step("mean", r));
        }
        return list;
    }

    /** As many to an object as its 512 calls leave. */
    private List<List<Step>> split(List<Step> list) {
        List<List<Step>> groups = new ArrayList<>();
        int room = Math.max(1, (CALLS - steps.size() - 1) / 2);
        for (int i = 0; i < list.size(); i += room) groups.add(list.subList(i, Math.min(list.size(), i + room)));
        return groups;
    }

    /** Each call that changes something alone, and digest() behind it. */
    private List<List<Step>> deedQuestions() {
        List<List<Step>> groups = new ArrayList<>();
        for (int f = 0; f < live.count(0); f++) {
            groups.add(withDigest(new Step("set", f)));
            groups.add(withDigest(new Step("lift", f)));
        }
        for (int order = 0; order < 3; order++) groups.add(withDigest(new Step("all", order)));
        for (int rule = 0; rule < 4; rule++) groups.add(withDigest(new Step("rule", rule)));
        for (int k = 0; k < 3; k++) {
            groups.add(withDigest(new Step("keep", k)));
            groups.add(withDigest(new Step("on", k), backwards(40)));
        }
        groups.add(withDigest(new Step("lots", 1, 1)));
        groups.add(withDigest(new Step("count", 0), backwards(live.count(10))));
        for (int t = 0; t < 4; t++) {
            groups.add(withDigest(new Step("sheet", t)));
            groups.add(withDigest(new Step("write", t)));
            groups.add(withDigest(new Step("put", t, 1, 200)));
        }
        for (int r = 0; r < 6; r++) {
            groups.add(withDigest(new Step("lay", r, 1, 77)));
            groups.add(withDigest(new Step("copy", r, 0, 0, 1, 1)));
            groups.add(withDigest(new Step("tear", r)));
        }
        return groups;
    }

    private static List<Step> withDigest(Step first, Step... more) {
        List<Step> list = new ArrayList<>();
        list.add(first);
        list.add(new Step("digest"));
        for (Step s : more) {
            list.add(s);
            list.add(new Step("digest"));
        }
        return list;
    }

    /** All DEEDS undone one by one. */
    private static Step[] backwards(int deeds) {
        Step[] list = new Step[deeds];
        for (int i = 0; i < deeds; i++) list[i] = new Step("undo", deeds - 1 - i);
        return list;
    }

    private String behind() {
        StringBuilder s = new StringBuilder();
        for (int i = Math.max(0, steps.size() - 6); i < steps.size(); i++) s.append(' ').append(steps.get(i).words());
        return " [behind" + s + "]";
    }
}
