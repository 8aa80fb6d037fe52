import java.util.ArrayList;
import java.util.List;

/** Boundary cases of promises 16 to 22, sentence by sentence: deeds, undo, sheets kept. */
public final class DeedEdgesTest {
    private static final int MAX = Scene.MAX, MIN = Scene.MIN;
    private static final int BAD = Check.BAD, FULL = Check.FULL, STATE = Check.STATE, SPENT = Check.SPENT, NONE = Check.NONE;
    private static final int NOTHING = Check.NOTHING;
    /** One that is SET, one that has no room, one that has. */
    private static final String THREE = "page 4 4;icon 2 2 0 0 0 0;icon 5 5 0 0 0 0;icon 1 1 0 0 0 0;";
    private static final String[][] DEEDS = {
        {"set", "0"}, {"rule", "2"}, {"set", "2"}, {"lift", "0"}, {"all", "1"}, {"rule", "0"}, {"lift", "2"}, {"set", "2"},
    };

    public static void main(String[] args) {
        set();
        setState();
        setSpent();
        setFull();
        lift();
        liftState();
        liftFull();
        all();
        allFull();
        rule();
        ruleState();
        ruleFull();
        deedsAreForty();
        undoCounts();
        undoPutsBack();
        undoRefused();
        undoOfFull();
        undoOfLots();
        keep();
        keepState();
        on();
        onNothing();
        onIsApart();
        onOfFull();
        Check.end();
    }

    /** One FRAME SET, and DEEDS up to a number. */
    private static Scene with(int deeds) {
        return Scene.sheet(THREE).call("set", 0).deeds(deeds);
    }

    // ---- 16

    private static void set() {
        Check.about("16: SET: its PAGE");
        Scene s = Scene.sheet("page 4 4;icon 4 4 0 0 0 0;icon 4 4 0 0 0 0;icon 4 4 0 0 0 0;");
        s.gives(0, "set", 2).gives(1, "set", 0).gives(2, "set", 1);
        s.answers(3, "count", 1);
        s.answers(3, "count", 10);
        s.answers(0, "asked");
        Check.about("16: BAD");
        for (int f : new int[] {-1, 3, 8, MIN, MAX}) {
            s.refuses(BAD, "set", f);
            with(40).refuses(BAD, "set", f);
        }
        for (int f : new int[] {-1, 0, 1}) Scene.bare().refuses(BAD, "set", f);
    }

    private static void setState() {
        Check.about("16: STATE: it is");
        Scene s = Scene.sheet(THREE);
        s.answers(0, "set", 0);
        s.call("set", 0).refuses(STATE, "set", 0);
        s.copy().call("lift", 0).answers(0, "set", 0);
        s.copy().call("undo", 0).answers(0, "set", 0);
        s.copy().call("all", 2).refuses(STATE, "set", 2);
    }

    private static void setSpent() {
        Check.about("16: SPENT: no PAGE has room for it");
        Scene s = Scene.sheet(THREE);
        s.refuses(SPENT, "set", 1);
        s.copy().call("set", 0).refuses(SPENT, "set", 1);
        Scene.sheet("page 5 5;icon 5 5 0 0 0 0;").answers(0, "set", 0);
        Scene.sheet("page 4 5;icon 5 5 0 0 0 0;").refuses(SPENT, "set", 0);
        Scene.sheet("page 5 4;icon 5 5 0 0 0 0;").refuses(SPENT, "set", 0);
        Scene.sheet("page 4 4;border 2 2 0 0 0 0;").answers(0, "set", 0);
        Scene.sheet("page 4 4;border 3 2 0 0 0 0;").refuses(SPENT, "set", 0);
    }

    private static void setFull() {
        Check.about("16: FULL (FULL last)");
        with(39).gives(0, "set", 2).answers(40, "count", 10);
        with(40).refuses(FULL, "set", 2);
        with(40).refuses(STATE, "set", 0);
        with(40).refuses(SPENT, "set", 1);
        with(40).refuses(BAD, "set", 3);
        with(39).refuses(SPENT, "set", 1);
    }

    // ---- 17

    private static void lift() {
        Check.about("17: LIFTED: how many PAGES there are then");
        Scene s = Scene.sheet("page 4 4;icon 4 4 0 0 0 0;icon 4 4 0 0 0 0;icon 4 4 0 0 0 0;");
        for (int f = 0; f < 3; f++) s.call("set", f);
        s.copy().gives(3, "lift", 0).gives(3, "lift", 1).gives(0, "lift", 2).answers(0, "count", 2);
        s.copy().gives(2, "lift", 2).gives(1, "lift", 1).gives(0, "lift", 0).answers(6, "count", 10);
        s.copy().gives(3, "lift", 1).gives(1, "lift", 2).gives(0, "lift", 0).answers(0, "count", 1);
        Check.about("17: BAD");
        for (int f : new int[] {-1, 3, 8, MIN, MAX}) {
            s.refuses(BAD, "lift", f);
            with(40).refuses(BAD, "lift", f);
        }
        for (int f : new int[] {-1, 0, 1}) Scene.bare().refuses(BAD, "lift", f);
    }

    private static void liftState() {
        Check.about("17: STATE: it is not SET");
        Scene s = Scene.sheet(THREE);
        for (int f = 0; f < 3; f++) s.refuses(STATE, "lift", f);
        s.call("set", 0).answers(0, "lift", 0);
        s.copy().call("lift", 0).refuses(STATE, "lift", 0);
        s.copy().call("undo", 0).refuses(STATE, "lift", 0);
        s.copy().call("all", 0).refuses(STATE, "lift", 1);
    }

    private static void liftFull() {
        Check.about("17: FULL (FULL last)");
        with(39).gives(0, "lift", 0).answers(40, "count", 10);
        with(40).refuses(FULL, "lift", 0);
        with(40).refuses(STATE, "lift", 2);
    }

    // ---- 18

    private static void all() {
        Check.about("18: All are SET anew: how many PAGES");
        Scene s = Scene.sheet(THREE);
        for (int order = 0; order < 3; order++) {
            Scene done = s.copy().gives(1, "all", order);
            done.answers(2, "count", 1);
            done.answers(1, "count", 10);
            done.gives(1, "all", order).answers(2, "count", 10);
        }
        Scene.sheet("page 4 4;icon 5 5 0 0 0 0;").gives(0, "all", 0).answers(1, "count", 10);
        Check.about("18: BAD: also no SHEET");
        for (int order : new int[] {-1, 3, 4, MIN, MAX}) {
            s.refuses(BAD, "all", order);
            Scene.bare().refuses(BAD, "all", order);
        }
        for (int order = 0; order < 3; order++) {
            Scene.bare().refuses(BAD, "all", order);
            Scene.bare().text(0, THREE).refuses(BAD, "all", order);
        }
    }

    private static void allFull() {
        Check.about("18: FULL");
        for (int order = 0; order < 3; order++) {
            with(39).gives(1, "all", order).answers(40, "count", 10);
            with(40).refuses(FULL, "all", order);
        }
        for (int order : new int[] {-1, 3}) with(40).refuses(BAD, "all", order);
    }

    // ---- 19

    private static void rule() {
        Check.about("19: The RULE: what it was");
        for (int from = 0; from < 4; from++) {
            for (int to = 0; to < 4; to++) {
                Scene s = Scene.sheet(THREE).call("rule", from);
                if (from == to) s.refuses(STATE, "rule", to);
                else s.gives(from, "rule", to).answers(to, "count", 6);
            }
        }
        Check.about("19: BAD");
        for (int k : new int[] {-1, 4, 5, MIN, MAX}) {
            Scene.busy().refuses(BAD, "rule", k);
            Scene.bare().refuses(BAD, "rule", k);
            with(40).refuses(BAD, "rule", k);
        }
    }

    private static void ruleState() {
        Check.about("19: STATE: it is that, or no SHEET");
        for (int k = 0; k < 4; k++) {
            Scene.bare().refuses(STATE, "rule", k);
            Scene.bare().text(0, THREE).refuses(STATE, "rule", k);
        }
        Scene.busy().refuses(STATE, "rule", 2);
        Scene.sheet(THREE).call("rule", 3).call("undo", 0).refuses(STATE, "rule", 0);
        Scene.sheet(THREE).call("rule", 3).call("sheet", 0).refuses(STATE, "rule", 0);
    }

    private static void ruleFull() {
        Check.about("19: FULL (FULL last)");
        for (int k = 0; k < 4; k++) {
            int now = with(40).play().count(6);
            if (k == now) with(40).refuses(STATE, "rule", k);
            else with(40).refuses(FULL, "rule", k);
        }
        int before = with(39).play().count(6);
        with(39).gives(before, "rule", (before + 1) % 4).answers(40, "count", 10);
        with(39).refuses(STATE, "rule", before);
    }

    private static void deedsAreForty() {
        Check.about("Terms 2: These are DEEDS (40 at most)");
        Scene s = Scene.sheet(THREE);
        for (int i = 0; i < 40; i++) {
            s.answers(i, "count", 10);
            if (i % 4 == 0) s.gives(0, "set", 0);
            else if (i % 4 == 1) s.gives(i % 8 == 1 ? 0 : 1, "rule", i % 8 == 1 ? 1 : 0);
            else if (i % 4 == 2) s.gives(1, "all", 0);
            else s.gives(1, "lift", 0);
        }
        s.answers(40, "count", 10);
        s.refuses(FULL, "set", 0);
        s.refuses(FULL, "lift", 2);
        s.refuses(FULL, "all", 0);
        s.refuses(FULL, "rule", 3);
        s.refuses(FULL, "lots", 1, 1);
        Check.about("Terms 2: what is refused, told or kept is no DEED");
        Scene none = Scene.sheet(THREE).call("set", 1).call("lift", 0).call("rule", 0).call("all", 3).call("would", 1, 1).call("best")
                .call("keep", 0).call("on", 0).call("undo", 0).call("takes", 0).call("lots", 0, 1);
        none.answers(0, "count", 10);
    }

    // ---- 20

    private static Scene done(int n) {
        Scene s = Scene.sheet(THREE);
        for (int i = 0; i < n; i++) s.call(DEEDS[i][0], Integer.parseInt(DEEDS[i][1]));
        s.answers(n, "count", 10);
        return s;
    }

    private static void undoCounts() {
        Check.about("20: DEEDS from number n on are undone: how many");
        for (int deeds = 0; deeds <= DEEDS.length; deeds++) {
            for (int n = 0; n <= deeds; n++) done(deeds).gives(deeds - n, "undo", n).answers(n, "count", 10);
        }
        Scene.bare().gives(0, "undo", 0).answers(0, "count", 10);
        Scene.sheet(THREE).answers(0, "undo", 0);
        done(3).changesNothing("undo", 3);
        Scene.busy().call("at", 0, 0).call("undo", 0).answers(5, "asked");
    }

    private static void undoPutsBack() {
        Check.about("20: what is undone is as if it had not been done");
        int most = DEEDS.length;
        for (int n = 0; n <= most; n++) {
            Scene back = done(most).call("undo", n);
            Scene straight = done(n);
            back.answers(straight.play().digest(), "digest");
            for (int i = n; i < most; i++) {
                back.call(DEEDS[i][0], Integer.parseInt(DEEDS[i][1]));
                straight.call(DEEDS[i][0], Integer.parseInt(DEEDS[i][1]));
                back.answers(straight.play().digest(), "digest");
            }
            Scene twice = done(most).call("undo", most - 1).call("undo", n);
            if (n < most) twice.answers(done(n).play().digest(), "digest");
        }
    }

    private static void undoRefused() {
        Check.about("20: BAD");
        for (int n : new int[] {-1, -2, 1, 2, 40, 41, MIN, MAX}) Scene.bare().refuses(BAD, "undo", n);
        for (int deeds : new int[] {0, 1, 7, 8}) {
            for (int n : new int[] {-1, deeds + 1, deeds + 2, 41, MIN, MAX}) done(deeds).refuses(BAD, "undo", n);
        }
        done(8).call("undo", 3).refuses(BAD, "undo", 4);
        done(8).call("undo", 3).answers(0, "undo", 3);
        with(40).refuses(BAD, "undo", 41);
        with(40).refuses(BAD, "undo", -1);
    }

    private static void undoOfFull() {
        Check.about("20: where DEEDS are 40");
        with(40).answers(0, "undo", 40);
        with(40).gives(1, "undo", 39).gives(0, "set", 2).refuses(FULL, "all", 0);
        Scene s = with(40).gives(40, "undo", 0);
        s.answers(Scene.sheet(THREE).play().digest(), "digest");
        s.deeds(40).refuses(FULL, "set", 0);
    }

    private static void undoOfLots() {
        Check.about("20: DEEDS by LOTS are undone one by one as well");
        for (int n = 1; n <= 20; n++) {
            for (int back = 0; back < n; back++) {
                Scene s = Scene.sheet(THREE).call("lots", n, 99).gives(n - back, "undo", back);
                Scene less = Scene.sheet(THREE);
                if (back > 0) less.call("lots", back, 99);
                s.answers(less.play().digest(), "digest");
            }
        }
    }

    // ---- 21, 22

    private static void keep() {
        Check.about("21: The SHEET is kept in a place (0 .. 2): how many DEEDS");
        for (int k = 0; k < 3; k++) {
            for (int deeds : new int[] {0, 1, 39, 40}) {
                Scene s = deeds == 0 ? Scene.sheet(THREE) : with(deeds);
                s.gives(deeds, "keep", k).answers(1, "count", 13);
                s.answers(deeds, "count", 10);
                s.gives(deeds, "keep", k).answers(1, "count", 13);
            }
        }
        Scene s = Scene.sheet(THREE).gives(0, "keep", 2).gives(0, "keep", 0).gives(0, "keep", 1);
        s.answers(3, "count", 13);
        Check.about("21: BAD");
        for (int k : new int[] {-1, 3, 4, MIN, MAX}) {
            s.refuses(BAD, "keep", k);
            Scene.busy().refuses(BAD, "keep", k);
            Scene.bare().refuses(BAD, "keep", k);
        }
    }

    private static void keepState() {
        Check.about("21: STATE: no SHEET");
        for (int k = 0; k < 3; k++) {
            Scene.bare().refuses(STATE, "keep", k);
            Scene.bare().text(0, "page 4 4;").call("sheet", 0).refuses(STATE, "keep", k);
        }
    }

    private static void on() {
        Check.about("22: The SHEET is as it was kept: how many DEEDS");
        for (int k = 0; k < 3; k++) {
            for (int deeds = 0; deeds <= DEEDS.length; deeds++) {
                Scene s = done(deeds).call("keep", k);
                long kept = s.play().digest();
                List<Scene> later = new ArrayList<>();
                later.add(s.copy());
                later.add(s.copy().call("undo", 0));
                later.add(s.copy().call("all", 2));
                later.add(s.copy().call("undo", 0).call("rule", 3).call("all", 1).call("lift", 0).deeds(20));
                for (Scene it : later) {
                    it.gives(deeds, "on", k).answers(kept, "digest");
                    for (int n = deeds; n >= 0; n--) {
                        it.copy().call("undo", n).answers(done(deeds).call("keep", k).call("undo", n).play().digest(), "digest");
                    }
                }
            }
        }
        Check.about("22: BAD");
        for (int k : new int[] {-1, 3, 4, MIN, MAX}) {
            Scene.busy().refuses(BAD, "on", k);
            Scene.bare().refuses(BAD, "on", k);
        }
    }

    private static void onNothing() {
        Check.about("22: NOTHING");
        for (int k = 0; k < 3; k++) {
            Scene.bare().finds(NOTHING, "on", k);
            done(4).finds(NOTHING, "on", k);
            Scene one = done(4).call("keep", k);
            one.answers(4, "on", k);
            one.finds(NOTHING, "on", (k + 1) % 3);
            one.finds(NOTHING, "on", (k + 2) % 3);
            one.copy().call("sheet", 0).finds(NOTHING, "on", k);
            one.copy().call("undo", 0).answers(4, "on", k);
        }
        Scene.busy().finds(NOTHING, "on", 2);
    }

    private static void onIsApart() {
        Check.about("21, 22: what is kept stays as it is, whatever comes behind it");
        Scene s = done(3).call("keep", 0).call("lift", 0).call("keep", 1).call("all", 1).call("rule", 3).call("keep", 2);
        long[] places = new long[3];
        for (int k = 0; k < 3; k++) places[k] = s.copy().call("on", k).play().digest();
        Check.due("three that differ", 3, java.util.Arrays.stream(places).distinct().count());
        for (int k = 0; k < 3; k++) {
            for (int j = 0; j < 3; j++) {
                s.copy().call("on", j).call("undo", 0).call("set", 2).call("on", k).answers(places[k], "digest");
                s.copy().call("on", j).deeds(40).call("on", k).answers(places[k], "digest");
            }
            s.copy().call("row", 3, 3).call("on", k).answers(1, "count", 11);
        }
        Scene again = s.copy().call("on", 0).call("keep", 2);
        again.answers(3, "on", 2);
        again.answers(4, "on", 1);
        again.answers(3, "count", 13);
        again.answers(0, "asked");
    }

    private static void onOfFull() {
        Check.about("22: where DEEDS are 40");
        Scene s = with(40).call("keep", 1).call("undo", 0).gives(40, "on", 1);
        s.refuses(FULL, "set", 2);
        s.refuses(BAD, "undo", 41);
        s.answers(40, "undo", 0);
        Scene less = with(39).call("keep", 1).deeds(40).gives(39, "on", 1);
        less.gives(0, "set", 2).refuses(FULL, "lift", 2);
        less.refuses(NONE, "place", 1, 0);
    }
}
