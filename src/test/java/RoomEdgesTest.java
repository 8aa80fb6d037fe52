/** Boundary cases of what Terms 2 says of pages, free rectangles, rules and orders, sentence by sentence. */
public final class RoomEdgesTest {
    private static final int BAD = Check.BAD, SPENT = Check.SPENT;
    /** On 8 by 6 the first leaves 3 by 6 on the right and 8 by 4 below. */
    private static final String CORNER = "page8 6;" + icon("5 2");

    public static void main(String[] args) {
        free();
        freeOrder();
        pages();
        ruleAtFirst();
        needsNoMore();
        ruleShort();
        ruleArea();
        ruleLow();
        ruleLong();
        firstFree();
        notTurned();
        firstPage();
        anotherPage();
        othersStay();
        orderByNumbers();
        orderByPlaces();
        orderBySides();
        ordersOfLikeOnes();
        ordersWithoutRoom();
        Check.end();
    }

    private static String icon(String sides) {
        return "icon" + sides + " 0 0 0 0;";
    }

    private static String icons(String... sides) {
        StringBuilder s = new StringBuilder();
        for (String n : sides) s.append(icon(n));
        return s.toString();
    }

    /** A page full of ICONS, SET by LOW one behind the other; those lifted leave holes; then a RULE. */
    private static Scene holes(int rule, String text, int filled, int... lifted) {
        Scene s = Scene.sheet(text).gives(0, "rule", 2);
        for (int f = 0; f < filled; f++) s.gives(0, "set", f);
        s.isFree(0);
        for (int f : lifted) s.gives(1, "lift", f);
        if (rule != 2) s.gives(2, "rule", rule);
        return s;
    }

    private static Scene corner(int rule, String frame) {
        Scene s = Scene.sheet(CORNER + frame).gives(0, "set", 0).isFree(0, 5, 0, 3, 6, 0, 2, 8, 4);
        if (rule != 0) s.gives(0, "rule", rule);
        return s.gives(0, "set", 1);
    }

    private static void free() {
        Check.about("Terms 2: FREE of a PAGE are all rectangles of places that no FRAME takes, and that lie in no greater such one");
        Scene full = Scene.sheet("page 4 4;" + icons("4 4", "4 3", "3 1", "1 1")).gives(0, "set", 0).isFree(0);
        full.answers(0, "count", 8);
        full.gives(1, "set", 1).isFree(1, 0, 3, 4, 1);
        full.gives(1, "set", 2).isFree(1, 3, 3, 1, 1).isFree(0);
        full.answers(1, "count", 8);
        full.gives(1, "set", 3).isFree(1).isFree(0);
        full.answers(0, "count", 8);
        full.gives(2, "lift", 0).isFree(0, 0, 0, 4, 4);
        Scene.sheet("page 16 16;" + icon("1 1")).gives(0, "set", 0).isFree(0, 1, 0, 15, 16, 0, 1, 16, 15);
        Scene.sheet("page 16 16;" + icon("15 16")).gives(0, "set", 0).isFree(0, 15, 0, 1, 16);
        Scene.sheet("page 16 16;" + icon("16 15")).gives(0, "set", 0).isFree(0, 0, 15, 16, 1);
        Scene.sheet("page 16 16;" + icon("15 15")).gives(0, "set", 0).isFree(0, 15, 0, 1, 16, 0, 15, 16, 1);
    }

    private static void freeOrder() {
        Check.about("Terms 2: in order by y, then x, then how wide, then how high");
        Scene ring = Scene.sheet("page5 5;" + icons("5 1", "1 4", "3 3", "4 1")).call("rule", 2);
        for (int f = 0; f < 4; f++) ring.call("set", f);
        ring.isFree(0, 4, 1, 1, 3);
        ring.call("lift", 0).call("lift", 1).call("lift", 3);
        ring.isFree(0, 0, 0, 1, 5, 0, 0, 5, 1, 4, 0, 1, 5, 0, 4, 5, 1);
        Scene last = holes(0, "page4 4;" + icons("2 2", "2 2", "2 2", "2 2"), 4, 0, 1, 2);
        last.isFree(0, 0, 0, 2, 4, 0, 0, 4, 2);
    }

    private static void pages() {
        Check.about("Terms 2: There are as many PAGES as it takes (those behind the last FRAME are none)");
        Scene s = Scene.sheet("page 4 4;" + icons("4 4", "4 4", "4 4", "4 4"));
        s.refuses(BAD, "used", 0);
        for (int f = 0; f < 4; f++) {
            s.answers(f, "count", 2);
            s.refuses(BAD, "used", f);
            s.gives(f, "set", f);
            s.answers(16, "used", f);
        }
        s.refuses(BAD, "used", 4);
        Scene less = s.copy().gives(3, "lift", 3);
        less.refuses(BAD, "used", 3);
        less.refuses(BAD, "free", 3, 0, 0);
        less.refuses(BAD, "takes", 3);
        less.refuses(BAD, "seen", 3, 0, 0);
        Check.about("Terms 2: one ahead of it may be empty");
        Scene ahead = s.copy().gives(4, "lift", 1).gives(4, "lift", 2);
        for (int page = 1; page <= 2; page++) {
            ahead.tells(0, 0, "used", page);
            ahead.tells(6, 16, "takes", page);
            ahead.refuses(Check.NONE, "seen", page, 0, 0);
            ahead.isFree(page, 0, 0, 4, 4);
        }
        ahead.answers(2, "count", 8);
        ahead.answers(32, "count", 7);
        ahead.answers(1, "lift", 3);
        ahead.copy().call("lift", 3).gives(0, "lift", 0).answers(0, "count", 2);
    }

    private static void ruleAtFirst() {
        Check.about("Terms 2: RULES (0 at first)");
        Scene s = Scene.sheet(CORNER + icon("1 4"));
        s.answers(0, "count", 6);
        s.refuses(Check.STATE, "rule", 0);
        s.gives(0, "set", 0).gives(0, "set", 1).isAt(1, 0, 0, 2, 0);
        Scene.bare().answers(0, "count", 6);
    }

    private static void needsNoMore() {
        Check.about("Terms 2: a FREE rectangle and a FRAME that NEEDS no more (turned, or not)");
        for (int rule = 0; rule < 4; rule++) {
            String[] sides = {"2 4", "3 4", "2 3", "1 4"};
            int[] page = {0, 1, 0, 0};
            for (int i = 0; i < 4; i++) {
                Scene s = Scene.sheet("page 4 4;" + icons("2 4", sides[i])).call("rule", rule).call("set", 0);
                s.gives(page[i], "set", 1).isAt(1, page[i], page[i] == 0 ? 2 : 0, 0, 0);
                String down = sides[i].charAt(2) + " " + sides[i].charAt(0);
                s = Scene.sheet("page 4 4;" + icons("4 2", down)).call("rule", rule).call("set", 0);
                s.gives(page[i], "set", 1).isAt(1, page[i], 0, page[i] == 0 ? 2 : 0, 0);
            }
            Scene.sheet("page 5 4;" + icon("5 4")).call("rule", rule).answers(0, "set", 0);
            Scene.sheet("page 5 4;" + icon("6 4")).call("rule", rule).refuses(SPENT, "set", 0);
            Scene.sheet("page 5 4;" + icon("5 5")).call("rule", rule).refuses(SPENT, "set", 0);
            Scene.sheet("page 5 4;frame 4 5 0 0 0 0;").call("rule", rule).gives(0, "set", 0).isAt(0, 0, 0, 0, 1);
            Scene.sheet("page 5 4;frame 4 6 0 0 0 0;").call("rule", rule).refuses(SPENT, "set", 0);
            Scene.sheet("page 5 4;frame 5 5 0 0 0 0;").call("rule", rule).refuses(SPENT, "set", 0);
        }
    }

    /** In the corner's rectangles 1 by 4 leaves 2, 2 and 7, 0. */
    private static void ruleShort() {
        Check.about("Terms 2: 0 SHORT: the less of X, Y, then the other one");
        corner(0, icon("1 4")).isAt(1, 0, 0, 2, 0);
        corner(0, icon("3 1")).isAt(1, 0, 5, 0, 0);
        String text = "page8 4;" + icons("3 4", "1 4", "2 4", "2 4", "1 4");
        holes(0, text, 4, 0, 2).isFree(0, 0, 0, 3, 4, 4, 0, 2, 4).gives(0, "set", 4).isAt(4, 0, 4, 0, 0);
        holes(0, text, 4, 2, 0).gives(0, "set", 4).isAt(4, 0, 4, 0, 0);
        holes(0, text, 4, 0).gives(0, "set", 4).isAt(4, 0, 0, 0, 0);
    }

    private static void ruleArea() {
        Check.about("Terms 2: 1 AREA: how many places are left, then the less of X, Y");
        corner(1, icon("1 4")).isAt(1, 0, 5, 0, 0);
        String text = "page7 4;" + icons("2 4", "1 4", "4 2", "4 2", "1 2");
        holes(1, text, 4, 0, 2).isFree(0, 0, 0, 2, 4, 3, 0, 4, 2).gives(0, "set", 4).isAt(4, 0, 3, 0, 0);
        holes(1, text.replace("icon1 2 0", "icon2 1 0"), 4, 0, 2).gives(0, "set", 4).isAt(4, 0, 0, 0, 0);
        String near = "page14 4;" + icons("3 3", "1 4", "10 1", "10 3", "3 1", "1 1");
        holes(1, near, 5, 0, 2).isFree(0, 0, 0, 3, 3, 4, 0, 10, 1).gives(0, "set", 5).isAt(5, 0, 0, 0, 0);
    }

    private static void ruleLow() {
        Check.about("Terms 2: 2 LOW: y and how high the FRAME is, then x");
        corner(2, icon("1 4")).isAt(1, 0, 5, 0, 0);
        corner(2, "frame1 4 0 0 0 0;").isAt(1, 0, 0, 2, 1);
        corner(2, "frame3 1 0 0 0 0;").isAt(1, 0, 5, 0, 0);
        corner(2, "frame1 3 0 0 0 0;").isAt(1, 0, 5, 0, 1);
        String text = "page4 4;" + icons("2 1", "1 2", "1 2", "2 1", "4 2") + "frame1 2 0 0 0 0;";
        holes(2, text, 5, 2, 3).isFree(0, 3, 0, 1, 2, 0, 1, 2, 1).gives(0, "set", 5).isAt(5, 0, 0, 1, 1);
        holes(2, text, 5, 2).gives(0, "set", 5).isAt(5, 0, 3, 0, 0);
        Scene.sheet("page 4 4;frame 1 4 0 0 0 0;").call("rule", 2).gives(0, "set", 0).isAt(0, 0, 0, 0, 1);
    }

    private static void ruleLong() {
        Check.about("Terms 2: 3 LONG: the greater of X, Y, then the less");
        corner(3, icon("1 4")).isAt(1, 0, 5, 0, 0);
        corner(3, icon("4 1")).isAt(1, 0, 0, 2, 0);
        String text = "page7 4;" + icons("3 2", "1 4", "3 1", "3 3", "3 2", "1 1");
        holes(3, text, 5, 0, 2).isFree(0, 0, 0, 3, 2, 4, 0, 3, 1).gives(0, "set", 5).isAt(5, 0, 4, 0, 0);
        holes(3, text, 5, 0).gives(0, "set", 5).isAt(5, 0, 0, 0, 0);
    }

    private static void firstFree() {
        Check.about("Terms 2: of like ones the first FREE rectangle");
        String twice = "page8 4;" + icons("2 4", "1 4", "2 4", "3 4", "2 3");
        String ways = "page4 4;" + icons("2 1", "1 2", "1 2", "2 1", "4 2") + "frame1 2 0 0 0 0;";
        String bend = "page4 4;" + icons("1 1", "3 1", "2 1", "2 1", "4 2") + "frame1 2 0 0 0 0;";
        for (int rule = 0; rule < 4; rule++) {
            holes(rule, twice, 4, 0, 2).isFree(0, 0, 0, 2, 4, 3, 0, 2, 4).gives(0, "set", 4).isAt(4, 0, 0, 0, 0);
            holes(rule, ways, 5, 0, 2).isFree(0, 0, 0, 2, 1, 3, 0, 1, 2).gives(0, "set", 5).isAt(5, 0, 0, 0, 1);
            holes(rule, bend, 5, 0, 2).isFree(0, 0, 0, 1, 2, 0, 1, 2, 1).gives(0, "set", 5).isAt(5, 0, 0, 0, 0);
        }
    }

    private static void notTurned() {
        Check.about("Terms 2: of like ones .. then not TURNED");
        for (int rule : new int[] {0, 1, 3}) {
            Scene.sheet("page 5 5;frame 1 2 0 0 0 0;").call("rule", rule).gives(0, "set", 0).isAt(0, 0, 0, 0, 0);
            Scene.sheet("page 5 5;frame 2 1 0 0 0 0;").call("rule", rule).gives(0, "set", 0).isAt(0, 0, 0, 0, 0);
            Scene.sheet("page 5 5;border 2 3 0 0 0 0;").call("rule", rule).gives(0, "set", 0).isAt(0, 0, 0, 0, 0);
        }
        for (int rule = 0; rule < 4; rule++) {
            Scene.sheet("page 6 5;frame 3 3 0 0 0 0;").call("rule", rule).gives(0, "set", 0).isAt(0, 0, 0, 0, 0);
        }
        Scene.sheet("page 5 5;frame 1 2 0 0 0 0;").call("rule", 2).gives(0, "set", 0).isAt(0, 0, 0, 0, 1);
        Scene.sheet("page 5 5;frame 2 1 0 0 0 0;").call("rule", 2).gives(0, "set", 0).isAt(0, 0, 0, 0, 0);
    }

    private static void firstPage() {
        Check.about("Terms 2: A FRAME is SET on the first PAGE that has a FREE rectangle which has room for it");
        for (int rule = 0; rule < 4; rule++) {
            Scene s = Scene.sheet("page 4 4;" + icons("2 4", "3 4", "1 4", "2 4", "1 3")).call("rule", rule);
            s.gives(0, "set", 0).gives(1, "set", 1);
            s.copy().gives(0, "set", 2).isAt(2, 0, 2, 0, 0);
            s.gives(0, "set", 3).gives(1, "set", 2).isAt(2, 1, 3, 0, 0);
            s.copy().gives(2, "lift", 0).gives(0, "set", 0).isAt(0, 0, 0, 0, 0);
            s.gives(2, "set", 4).isAt(4, 2, 0, 0, 0);
        }
    }

    private static void anotherPage() {
        Check.about("Terms 2: behind the last one there is another one, all FREE; 8 at most");
        for (int rule = 0; rule < 4; rule++) {
            Scene s = Scene.sheet("page4 4;" + icons("4 4", "4 4", "4 4", "4 4", "4 4", "4 4", "4 4")).call("rule", rule);
            for (int f = 6; f >= 0; f--) s.gives(6 - f, "set", f).isAt(f, 6 - f, 0, 0, 0);
            s.answers(7, "count", 2);
            s.answers(7 * 16, "count", 7);
            s.answers(60000 + 303, "point", 0, 3, 3);
            s.answers(7, "would", rule, 2);
            s.answers(7, "all", 1);
        }
    }

    private static void othersStay() {
        Check.about("Terms 2: LIFTED (its places are free; all others stay)");
        Scene s = Scene.sheet("page 6 5;bleed 1;frame 3 1 0 0 0 0;icon 1 2 0 0 0 0;border 1 1 0 0 0 0;frame 1 1 0 0 0 0;");
        for (int f = 0; f < 4; f++) s.call("set", f);
        for (int f = 0; f < 4; f++) {
            Scene lifted = s.copy().call("lift", f);
            for (int other = 0; other < 4; other++) {
                for (int what = 0; what < 4; what++) {
                    FrameSheets x = s.play();
                    x.place(other, what);
                    if (other == f) lifted.answers(Check.NONE, "place", f, what);
                    else lifted.tells(1, x.asked(), "place", other, what);
                }
            }
            FrameSheets x = s.play();
            x.frame(f, 3);
            int across = x.asked();
            x.frame(f, 4);
            lifted.answers(x.count(7) - across * x.asked(), "count", 7);
            lifted.answers(3, "count", 1);
        }
        Check.about("Terms 2: the RULE is another one: all FRAMES stay");
        for (int rule = 1; rule < 4; rule++) {
            FrameSheets x = s.play();
            Scene ruled = s.copy().call("rule", rule);
            for (int f = 0; f < 4; f++) {
                for (int what = 0; what < 4; what++) {
                    x.place(f, what);
                    ruled.tells(1, x.asked(), "place", f, what);
                }
            }
        }
    }

    /** By LOW on a low, wide page FRAMES stand in a line in the order in which they were SET. */
    private static void line(int order, String text, int... xs) {
        Scene s = Scene.sheet("page16 4;" + text).call("rule", 2).gives(1, "all", order);
        for (int f = 0; f < xs.length; f++) s.isAt(f, 0, xs[f], 0, 0);
    }

    private static void orderByNumbers() {
        Check.about("Terms 2: an ORDER (0 by numbers)");
        line(0, icons("1 4", "4 4", "2 4", "3 4"), 0, 1, 5, 7);
        line(0, icons("4 4", "1 4"), 0, 4);
    }

    private static void orderByPlaces() {
        Check.about("Terms 2: an ORDER (1 by how many places they NEED, most first)");
        line(1, icons("1 4", "4 4", "2 4", "3 4"), 9, 0, 7, 4);
        line(1, icons("4 3", "3 4"), 0, 4);
        line(1, icons("2 4", "3 3"), 3, 0);
        line(1, icons("5 1", "2 3"), 2, 0);
        line(1, icons("3 3") + "border2 1 0 0 0 0;", 4, 0);
        line(1, icons("3 2") + "border1 1 0 0 0 0;", 3, 0);
        line(1, "icon9 4 6 0 0 0;logo4 4 3 0 0 0;", 4, 0);
    }

    private static void orderBySides() {
        Check.about("Terms 2: an ORDER (2 by the longer side of what they NEED, most first)");
        line(2, icons("3 3", "1 4", "5 1"), 6, 5, 0);
        line(2, icons("3 3", "4 1"), 4, 0);
        line(2, icons("3 3", "1 4"), 1, 0);
        line(2, icons("3 3") + "border2 1 0 0 0 0;", 4, 0);
        line(2, icons("3 3") + "border1 1 0 0 0 0;", 0, 3);
        line(2, "icon9 3 6 0 0 0;logo4 4 3 0 0 0;", 4, 0);
    }

    private static void ordersOfLikeOnes() {
        Check.about("Terms 2: of like ones the lowest number");
        line(1, icons("2 3", "3 2", "1 1", "6 1", "1 1"), 0, 2, 11, 5, 12);
        line(2, icons("2 3", "3 1", "1 1", "3 3", "1 1"), 0, 2, 8, 5, 9);
        line(0, icons("2 2", "2 2", "2 2"), 0, 2, 4);
        for (int order = 0; order < 3; order++) line(order, icons("2 2", "2 2", "2 2", "2 2", "2 2", "2 2"), 0, 2, 4, 6, 8, 10);
    }

    private static void ordersWithoutRoom() {
        Check.about("Terms 2: all are SET anew ..; one that no PAGE has room for is not");
        Scene s = Scene.sheet("page 4 5;" + icons("5 1", "1 6", "4 5", "2 2")).gives(0, "set", 3);
        for (int order = 0; order < 3; order++) {
            Scene done = s.copy().gives(2, "all", order);
            for (int f = 0; f < 2; f++) done.answers(Check.NONE, "place", f, 0);
            done.isAt(2, 0, 0, 0, 0).isAt(3, 1, 0, 0, 0);
            done.answers(2, "count", 1);
            done.answers(2, "count", 10);
            Scene.sheet("page 4 4;" + icons("5 1", "1 5")).gives(0, "all", order).answers(1, "count", 10);
        }
    }
}
