/** Boundary cases of promises 28 to 30, sentence by sentence: what would be, which is best, lots. */
public final class WouldEdgesTest {
    private static final int MAX = Scene.MAX, MIN = Scene.MIN;
    private static final int BAD = Check.BAD, FULL = Check.FULL, STATE = Check.STATE, NONE = Check.NONE;
    private static final String THREE = "page 4 4;icon 2 2 0 0 0 0;icon 5 5 0 0 0 0;icon 1 1 0 0 0 0;";

    /** What each RULE and ORDER comes to: PAGES, and places taken on the last one; the first is best. */
    private record Case(int best, String text, int[] pages, int[] last) {
    }

    private static int[] of(int... n) {
        return n;
    }

    /** Each RULE and ORDER is the best one of a case, by its PAGES alone. */
    private static final Case[] BY_PAGES = {
        new Case(0, "page4 4;frame2 1 0 0 0 0;icon1 3 0 0 0 0;frame4 2 0 0 0 0;",
                of(1, 2, 2, 2, 2, 2, 2, 2, 2, 2, 2, 2), of(13, 3, 3, 8, 3, 3, 8, 3, 3, 8, 3, 3)),
        new Case(0, "page16 16;frame8 4 0 0 0 0;icon4 12 0 0 0 0;frame16 8 0 0 0 0;",
                of(1, 2, 2, 2, 2, 2, 2, 2, 2, 2, 2, 2), of(208, 48, 48, 128, 48, 48, 128, 48, 48, 128, 48, 48)),
        new Case(1, "page7 6;frame1 4 0 0 0 0;icon3 3 0 0 0 0;icon1 3 0 0 0 0;frame5 3 0 0 0 0;icon6 1 0 0 0 0;",
                of(2, 1, 2, 2, 2, 2, 2, 2, 2, 2, 2, 2), of(6, 37, 3, 6, 3, 3, 6, 6, 9, 6, 6, 9)),
        new Case(2, "page7 7;frame1 4 0 0 0 0;frame4 3 0 0 0 0;frame4 2 0 0 0 0;frame2 2 0 0 0 0;frame6 3 0 0 0 0;",
                of(2, 2, 1, 2, 2, 2, 2, 2, 2, 2, 2, 2), of(18, 4, 46, 18, 4, 4, 18, 4, 4, 18, 4, 4)),
        new Case(10, "page7 5;frame4 3 0 0 0 0;icon1 2 0 0 0 0;frame4 1 0 0 0 0;frame3 5 0 0 0 0;",
                of(2, 2, 2, 1, 2, 2, 2, 2, 2, 2, 2, 2), of(15, 2, 2, 33, 2, 2, 15, 12, 12, 15, 12, 12)),
        new Case(11, "page7 4;frame1 4 0 0 0 0;icon2 2 0 0 0 0;icon4 2 0 0 0 0;icon1 2 0 0 0 0;icon3 3 0 0 0 0;",
                of(2, 2, 2, 2, 1, 2, 2, 2, 2, 2, 2, 2), of(9, 6, 9, 9, 27, 9, 9, 6, 6, 9, 6, 6)),
        new Case(12, "page7 6;icon2 5 0 0 0 0;icon2 2 0 0 0 0;frame4 5 0 0 0 0;frame5 1 0 0 0 0;",
                of(2, 2, 2, 2, 2, 1, 2, 2, 2, 2, 2, 2), of(5, 4, 4, 5, 4, 39, 5, 4, 4, 5, 4, 4)),
        new Case(20, "page6 5;icon1 2 0 0 0 0;frame1 4 0 0 0 0;icon5 4 0 0 0 0;",
                of(2, 2, 2, 2, 2, 2, 1, 2, 2, 2, 2, 2), of(20, 2, 2, 20, 2, 2, 26, 2, 2, 20, 2, 2)),
        new Case(21, "page4 4;frame3 1 0 0 0 0;icon2 3 0 0 0 0;icon3 1 0 0 0 0;",
                of(2, 2, 2, 2, 2, 2, 2, 1, 2, 2, 2, 2), of(3, 3, 3, 3, 3, 3, 3, 12, 3, 3, 3, 3)),
        new Case(22, "page6 6;icon4 3 0 0 0 0;icon4 1 0 0 0 0;frame2 5 0 0 0 0;icon2 4 0 0 0 0;",
                of(2, 2, 2, 2, 2, 2, 2, 2, 1, 2, 2, 2), of(8, 8, 8, 8, 8, 8, 8, 8, 34, 8, 8, 8)),
        new Case(30, "page6 6;icon1 5 0 0 0 0;frame5 2 0 0 0 0;frame6 3 0 0 0 0;",
                of(2, 2, 2, 2, 2, 2, 2, 2, 2, 1, 2, 2), of(18, 5, 5, 18, 5, 5, 18, 5, 5, 33, 5, 5)),
        new Case(31, "page5 6;icon5 1 0 0 0 0;frame5 4 0 0 0 0;icon1 3 0 0 0 0;",
                of(2, 2, 2, 2, 2, 2, 2, 2, 2, 2, 1, 2), of(3, 3, 3, 3, 3, 3, 3, 3, 3, 3, 28, 3)),
        new Case(32, "page7 7;frame6 4 0 0 0 0;icon1 5 0 0 0 0;icon1 7 0 0 0 0;",
                of(2, 2, 2, 2, 2, 2, 2, 2, 2, 2, 2, 1), of(7, 5, 5, 7, 5, 5, 7, 5, 5, 7, 5, 36)),
    };

    /** PAGES are alike, of all or of some; fewest places on the last PAGE tell. */
    private static final Case[] BY_LAST = {
        new Case(0, "page7 7;icon3 2 0 0 0 0;icon2 4 0 0 0 0;frame6 4 0 0 0 0;frame2 2 0 0 0 0;",
                of(2, 2, 2, 2, 2, 2, 2, 2, 2, 2, 2, 2), of(4, 8, 8, 24, 8, 8, 24, 8, 8, 24, 8, 8)),
        new Case(32, "page4 7;frame4 2 0 0 0 0;icon2 4 0 0 0 0;icon1 1 0 0 0 0;frame3 4 0 0 0 0;",
                of(2, 2, 2, 2, 2, 2, 2, 2, 2, 2, 2, 2), of(12, 8, 12, 12, 8, 12, 12, 8, 12, 12, 8, 1)),
        new Case(22, "page4 4;frame2 2 0 0 0 0;frame1 4 0 0 0 0;frame2 4 0 0 0 0;icon4 1 0 0 0 0;",
                of(3, 3, 2, 3, 3, 2, 2, 2, 2, 3, 3, 2), of(4, 4, 8, 4, 4, 8, 8, 8, 4, 4, 4, 8)),
        new Case(21, "page4 4;frame1 4 0 0 0 0;icon4 4 0 0 0 0;icon4 1 0 0 0 0;",
                of(3, 3, 3, 3, 3, 3, 2, 2, 2, 3, 3, 3), of(4, 4, 4, 4, 4, 4, 16, 8, 16, 4, 4, 4)),
        new Case(12, "page5 7;frame5 5 0 0 0 0;icon2 6 0 0 0 0;frame3 4 0 0 0 0;icon3 1 0 0 0 0;icon2 3 0 0 0 0;",
                of(2, 2, 3, 2, 2, 2, 2, 2, 3, 2, 2, 3), of(30, 30, 6, 30, 30, 25, 30, 30, 6, 30, 30, 6)),
    };

    /** More than one are alike in all. */
    private static final Case[] BY_LEAST = {
        new Case(0, "page6 6;icon2 1 0 0 0 0;icon6 2 0 0 0 0;icon1 6 0 0 0 0;",
                of(2, 2, 2, 2, 2, 2, 2, 2, 2, 2, 2, 2), of(6, 6, 6, 6, 6, 6, 6, 6, 6, 6, 6, 6)),
        new Case(1, "page4 4;icon3 2 0 0 0 0;icon3 3 0 0 0 0;icon1 1 0 0 0 0;",
                of(2, 2, 2, 2, 2, 2, 2, 2, 2, 2, 2, 2), of(9, 6, 9, 9, 6, 9, 9, 6, 9, 9, 6, 9)),
        new Case(2, "page4 4;frame3 2 0 0 0 0;icon2 3 0 0 0 0;icon4 1 0 0 0 0;",
                of(2, 2, 1, 2, 2, 1, 2, 2, 2, 2, 2, 2), of(6, 6, 16, 6, 6, 16, 6, 6, 6, 6, 6, 6)),
        new Case(11, "page5 4;frame4 1 0 0 0 0;icon3 3 0 0 0 0;icon2 2 0 0 0 0;",
                of(2, 2, 2, 2, 1, 2, 1, 1, 1, 1, 2, 1), of(4, 4, 4, 4, 17, 4, 17, 17, 17, 17, 4, 17)),
        new Case(20, "page5 5;frame2 5 0 0 0 0;icon4 2 0 0 0 0;icon1 5 0 0 0 0;",
                of(2, 2, 2, 2, 2, 2, 2, 2, 2, 2, 2, 2), of(8, 8, 8, 8, 8, 8, 5, 5, 5, 8, 8, 8)),
        new Case(22, "page4 5;icon1 3 0 0 0 0;icon1 4 0 0 0 0;frame3 2 0 0 0 0;icon3 2 0 0 0 0;",
                of(2, 2, 2, 2, 2, 2, 2, 2, 1, 2, 1, 2), of(6, 3, 6, 6, 3, 6, 6, 3, 19, 6, 19, 6)),
        new Case(31, "page6 7;icon5 1 0 0 0 0;frame6 5 0 0 0 0;icon1 4 0 0 0 0;",
                of(2, 2, 2, 2, 2, 2, 2, 2, 2, 2, 1, 1), of(4, 4, 4, 4, 4, 4, 4, 4, 4, 4, 39, 39)),
    };

    public static void main(String[] args) {
        would();
        wouldBits();
        wouldRefused();
        aside();
        best();
        bestOfNone();
        bestState();
        lotsNumbers();
        lotsRules();
        lotsSets();
        lotsLifts();
        lotsCannotBe();
        lotsFromOneToTheNext();
        lotsRefused();
        lotsFull();
        Check.end();
    }

    // ---- 28

    private static void would() {
        Check.about("28: How many PAGES there would be, were all SET anew by a RULE and an ORDER");
        for (Case[] cases : new Case[][] {BY_PAGES, BY_LAST, BY_LEAST}) {
            for (Case c : cases) {
                Scene s = Scene.sheet(c.text);
                for (int i = 0; i < 12; i++) {
                    s.tells(c.pages[i], 0, "would", i / 3, i % 3);
                    Scene done = s.copy().call("rule", i / 3).gives(c.pages[i], "all", i % 3);
                    done.answers(c.last[i], "used", c.pages[i] - 1);
                }
                s.copy().call("rule", 3).call("all", 1).tells(c.pages[0], 0, "would", 0, 0);
            }
        }
    }

    private static void wouldBits() {
        Check.about("28: FRAMES that would not be SET (bits) by asked()");
        Scene s = Scene.sheet("page4 5;icon5 1 0 0 0 0;icon4 5 0 0 0 0;frame5 4 0 0 0 0;icon1 6 0 0 0 0;frame6 1 0 0 0 0;border3 3 0 0 0 0;");
        for (int rule = 0; rule < 4; rule++) for (int order = 0; order < 3; order++) s.tells(2, 1 + 8 + 16 + 32, "would", rule, order);
        Scene none = Scene.sheet("page4 4;" + "icon5 1 0 0 0 0;".repeat(7));
        none.tells(0, 127, "would", 0, 0);
        none.tells(0, 127, "would", 3, 2);
        Scene all = Scene.sheet("page4 4;" + "icon4 4 0 0 0 0;".repeat(7));
        all.tells(7, 0, "would", 0, 0);
        all.tells(7, 0, "would", 3, 2);
        all.copy().call("set", 0).call("set", 1).tells(7, 0, "would", 1, 1);
    }

    private static void wouldRefused() {
        Check.about("28: BAD: also no SHEET");
        for (int n : new int[] {-1, 4, 5, MIN, MAX}) Scene.busy().refuses(BAD, "would", n, 0);
        for (int n : new int[] {-1, 3, 4, MIN, MAX}) Scene.busy().refuses(BAD, "would", 0, n);
        Scene.busy().refuses(BAD, "would", 4, 3);
        Scene.busy().answers(4, "would", 3, 2);
        for (int rule = -1; rule <= 4; rule++) for (int order = -1; order <= 3; order++) Scene.bare().refuses(BAD, "would", rule, order);
        Scene.bare().text(0, THREE).refuses(BAD, "would", 0, 0);
    }

    private static void aside() {
        Check.about("28, 29: aside: nothing is changed");
        Scene s = Scene.busy();
        for (int rule = 0; rule < 4; rule++) for (int order = 0; order < 3; order++) s.changesNothing("would", rule, order);
        s.changesNothing("best");
        Scene full = Scene.sheet(THREE).call("set", 2).deeds(40);
        full.tells(1, 2, "would", 1, 1);
        full.tells(0, 1, "best");
        full.changesNothing("would", 2, 2);
        full.changesNothing("best");
    }

    // ---- 29

    private static void bestOf(Case[] cases) {
        for (Case c : cases) {
            int pages = c.pages[c.best / 10 * 3 + c.best % 10];
            Scene.sheet(c.text).tells(c.best, pages, "best");
            Scene.sheet(c.text).call("rule", 2).call("all", 2).call("lift", 0).tells(c.best, pages, "best");
        }
    }

    /** As many FRAMES would be SET by each RULE and ORDER: a FRAME has room on a PAGE of its own, or on none. */
    private static void best() {
        Check.about("29: 10 times the RULE and the ORDER by which .. on fewest PAGES; how many PAGES by asked()");
        bestOf(BY_PAGES);
        Check.about("29: of like ones with fewest places taken on the last PAGE");
        bestOf(BY_LAST);
        Check.about("29: then the least");
        bestOf(BY_LEAST);
    }

    private static void bestOfNone() {
        Check.about("29: where no FRAME would be SET, or just one, the least");
        Scene.sheet("page 4 4;icon 5 1 0 0 0 0;icon 1 5 0 0 0 0;").tells(0, 0, "best");
        Scene.sheet("page 4 4;icon 4 1 0 0 0 0;").tells(0, 1, "best");
        Scene.sheet("page 4 4;icon 5 1 0 0 0 0;icon 1 1 0 0 0 0;").tells(0, 1, "best");
        Scene.sheet("page4 4;" + "icon4 4 0 0 0 0;".repeat(7)).tells(0, 7, "best");
    }

    private static void bestState() {
        Check.about("29: STATE: no SHEET");
        Scene.bare().refuses(STATE, "best");
        Scene.bare().row(0, 4).call("at", 0, 0).text(0, THREE).refuses(STATE, "best");
        Scene.sheet(THREE).answers(0, "best");
    }

    // ---- 30

    /**
     * First numbers, with three FRAMES: seeds 8, 16, 72, 80 are RULES 1, 3, 0, 2; modulo 8 and FRAME of
     * 7: 1, 0; 14: 2, 0; 21: 3, 0; 4: 4, 0; 11: 5, 0; 18: 6, 0; 1: 7, 0; 15: 1, 1; 12: 4, 1; 19: 5, 1;
     * 9: 7, 1; 23: 1, 2; 6: 2, 2; 13: 3, 2; 20: 4, 2; 3: 5, 2; 10: 6, 2; 17: 7, 2.
     */
    private static final int[] SET_0 = {7, 14, 21, 4}, SET_2 = {23, 6, 13, 20}, SET_1 = {15, 12};
    private static final int[] LIFT_0 = {11, 18, 1}, LIFT_2 = {3, 10, 17}, LIFT_1 = {19, 9};
    private static final int[] RULE_SEEDS = {72, 8, 80, 16};

    private static void lotsNumbers() {
        Check.about("30: 48271 times it modulo 2147483647, the first from the seed");
        Scene s = Scene.sheet(THREE);
        s.copy().gives(0, "lots", 1, 1329303544).answers(1, "count", 6);
        s.copy().gives(0, "lots", 1, 511123441).answers(2, "count", 6);
        s.copy().gives(0, "lots", 1, 1840426985).answers(3, "count", 6);
        s.copy().call("rule", 2).gives(0, "lots", 1, 1022246882).answers(0, "count", 6);
        s.copy().gives(1, "lots", 1, 1899818559).isAt(0, 0, 0, 0, 0);
        s.copy().call("set", 0).gives(0, "lots", 1, 247665088).answers(NONE, "place", 0, 0);
        s.copy().gives(0, "lots", 1, 2147483646).answers(1, "count", 6);
        s.copy().gives(1, "lots", 1, 2147483645).isAt(2, 0, 0, 0, 0);
        Check.about("30: FRAME it by 8, cut, modulo how many there are");
        int[] seeds = {52, 44, 36, 28, 20, 12, 4};
        String seven = "page4 4;" + "icon1 1 0 0 0 0;".repeat(7);
        for (int is = 0; is < 7; is++) {
            Scene done = Scene.sheet(seven).gives(1, "lots", 1, seeds[is]);
            for (int f = 0; f < 7; f++) done.answers(f == is ? 1 : NONE, "place", f, 0);
        }
    }

    private static void lotsRules() {
        Check.about("30: if it modulo 8 is 0, the RULE is it by 64, cut, modulo 4");
        for (int from = 0; from < 4; from++) {
            for (int to = 0; to < 4; to++) {
                Scene s = Scene.sheet(THREE).call("set", 2).call("rule", from);
                int deeds = s.play().count(10);
                s.gives(1, "lots", 1, RULE_SEEDS[to]).answers(to, "count", 6);
                s.answers(deeds + 1, "count", 10);
                s.isAt(2, 0, 0, 0, 0);
                s.gives(1, "undo", deeds).answers(from, "count", 6);
            }
        }
    }

    private static void lotsSets() {
        Check.about("30: if it is 1 to 4, that FRAME is SET, if it can be");
        for (int seed : SET_0) {
            Scene.sheet(THREE).gives(1, "lots", 1, seed).isAt(0, 0, 0, 0, 0).answers(1, "count", 10);
            Scene.sheet(THREE).call("set", 2).gives(2, "lots", 1, seed).isAt(0, 0, 1, 0, 0);
        }
        for (int seed : SET_2) Scene.sheet(THREE).gives(1, "lots", 1, seed).isAt(2, 0, 0, 0, 0).answers(0, "count", 6);
        Scene low = Scene.sheet("page 8 6;icon 5 2 0 0 0 0;icon 9 9 0 0 0 0;icon 1 4 0 0 0 0;").call("set", 0);
        low.copy().gives(2, "lots", 1, SET_2[0]).isAt(2, 0, 0, 2, 0);
        low.copy().call("rule", 2).gives(2, "lots", 1, SET_2[0]).isAt(2, 0, 5, 0, 0);
    }

    private static void lotsLifts() {
        Check.about("30: else it is LIFTED, if it is SET");
        Scene both = Scene.sheet(THREE).call("set", 0).call("set", 2);
        for (int seed : LIFT_0) {
            Scene s = both.copy().gives(1, "lots", 1, seed);
            s.answers(NONE, "place", 0, 0);
            s.isAt(2, 0, 2, 0, 0).answers(3, "count", 10);
        }
        for (int seed : LIFT_2) {
            Scene s = both.copy().gives(1, "lots", 1, seed);
            s.answers(NONE, "place", 2, 0);
            s.isAt(0, 0, 0, 0, 0).answers(0, "count", 6);
        }
    }

    private static void isDeedOfNothing(Scene s, int set, int seed) {
        int deeds = s.play().count(10);
        long before = s.play().digest();
        Scene done = s.copy().gives(set, "lots", 1, seed);
        done.answers(deeds + 1, "count", 10);
        done.copy().gives(1, "undo", deeds).answers(before, "digest");
        for (int what = 0; what < 10; what++) done.answers(s.play().count(what), "count", what);
        for (int f = 0; f < 3; f++) done.answers(s.play().place(f, 0), "place", f, 0);
    }

    private static void lotsCannotBe() {
        Check.about("30: what can't be is a DEED of nothing");
        Scene none = Scene.sheet(THREE);
        Scene both = Scene.sheet(THREE).call("set", 2).call("set", 0);
        for (int seed : SET_1) {
            isDeedOfNothing(none, 0, seed);
            isDeedOfNothing(both, 2, seed);
        }
        for (int seed : LIFT_1) isDeedOfNothing(both, 2, seed);
        for (int seed : SET_0) isDeedOfNothing(both, 2, seed);
        for (int seed : SET_2) isDeedOfNothing(both, 2, seed);
        for (int seed : LIFT_0) isDeedOfNothing(none, 0, seed);
        for (int seed : LIFT_2) isDeedOfNothing(none, 0, seed);
        isDeedOfNothing(none, 0, RULE_SEEDS[0]);
    }

    /** Seed 1: 48271 (7, FRAME 0), 182605794 (2, 2), 1291394886 (6, 0), 1914720637 (5, 1), 2078669041 (1, 0), 407355683 (3, 1). */
    private static void lotsFromOneToTheNext() {
        Check.about("30: n (1 .. 20) DEEDS by LOTS, a number from the one ahead: how many are SET");
        int[] set = {0, 1, 1, 1, 2, 2};
        for (int n = 1; n <= 6; n++) Scene.sheet(THREE).gives(set[n - 1], "lots", n, 1).answers(n, "count", 10);
        for (int n : new int[] {1, 2, 19, 20}) {
            Scene s = Scene.sheet(THREE).call("lots", n, 12345);
            s.answers(n, "count", 10);
            long lot = 12345;
            Scene one = Scene.sheet(THREE);
            for (int i = 0; i < n; i++) {
                one.call("lots", 1, (int) lot);
                lot = 48271 * lot % 2147483647;
            }
            s.answers(one.play().digest(), "digest");
            Scene.sheet(THREE).answers(one.play().count(1), "lots", n, 12345);
        }
    }

    private static void lotsRefused() {
        Check.about("30: BAD: n (1 .. 20), seed (1 .. 2147483646)");
        for (int n : new int[] {0, -1, 21, 22, 40, 41, MIN, MAX}) {
            Scene.busy().refuses(BAD, "lots", n, 1);
            Scene.bare().refuses(BAD, "lots", n, 1);
            Scene.sheet(THREE).deeds(40).refuses(BAD, "lots", n, 1);
        }
        for (int seed : new int[] {0, -1, MAX, MIN}) {
            Scene.busy().refuses(BAD, "lots", 1, seed);
            Scene.bare().refuses(BAD, "lots", 1, seed);
            Scene.sheet(THREE).deeds(40).refuses(BAD, "lots", 1, seed);
        }
        Scene.sheet(THREE).call("lots", 20, 1).answers(20, "count", 10);
        Scene.sheet(THREE).call("lots", 20, 2147483646).answers(20, "count", 10);
        Check.about("30: STATE: no SHEET");
        for (int n : new int[] {1, 20}) {
            Scene.bare().refuses(STATE, "lots", n, 1);
            Scene.bare().text(0, THREE).refuses(STATE, "lots", n, 2147483646);
        }
    }

    private static void lotsFull() {
        Check.about("30: FULL: with n more there would be more than 40 DEEDS (FULL last)");
        for (int n : new int[] {1, 2, 19, 20}) {
            Scene.sheet(THREE).deeds(40 - n).call("lots", n, 7).answers(40, "count", 10);
            Scene.sheet(THREE).deeds(39 - n).call("lots", n, 7).answers(39, "count", 10);
            Scene.sheet(THREE).deeds(41 - n).refuses(FULL, "lots", n, 7);
            Scene.sheet(THREE).deeds(40).refuses(FULL, "lots", n, 7);
        }
        Scene s = Scene.sheet(THREE).call("lots", 20, 3).call("lots", 20, 4);
        s.answers(40, "count", 10);
        s.refuses(FULL, "lots", 1, 9);
        s.refuses(FULL, "all", 0);
        s.gives(1, "undo", 39).call("lots", 1, 9).answers(40, "count", 10);
    }
}
