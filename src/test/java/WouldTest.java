/** Promises 28 to 30: what rules and orders would come to, which is best, and lots. */
public final class WouldTest {
    /** By numbers the 4 by 4 is in the way of what two pages could hold. */
    private static final String MIXED = "page 4 4;icon 1 1 0 0 0 0;icon 3 2 0 0 0 0;icon 4 3 0 0 0 0;icon 5 1 0 0 0 0;icon 4 2 0 0 0 0;";

    public static void main(String[] args) {
        would();
        wouldIsAside();
        wouldRefused();
        best();
        bestOfLikeOnes();
        bestOfNone();
        lots();
        lotsOfRules();
        lotsRefused();
        Check.end();
    }

    private static void would() {
        FrameSheets x = Check.sheet(MIXED);
        for (int rule = 0; rule < 4; rule++) {
            for (int order = 0; order < 3; order++) {
                int pages = x.would(rule, order);
                Check.due("asked(): frame 3 has no room", 8, x.asked());
                FrameSheets y = Check.sheet(MIXED);
                if (rule != 0) y.rule(rule);
                Check.due("would(" + rule + ", " + order + ")", y.all(order), pages);
            }
        }
        FrameSheets y = Check.sheet("page 4 4;icon 2 2 0 0 0 0;icon 4 3 0 0 0 0;icon 4 2 0 0 0 0;icon 4 1 0 0 0 0;");
        Check.tellsToo(y, "would(0, 0)", 2, 0, y.would(0, 0));
        FrameSheets z = Check.sheet("page 4 4;icon 1 1 0 0 0 0;icon 1 1 0 0 0 0;frame 4 3 0 0 0 0;icon 2 4 0 0 0 0;");
        Check.tellsToo(z, "would(0, 0)", 2, 0, z.would(0, 0));
    }

    private static void wouldIsAside() {
        FrameSheets x = Check.sheet(MIXED);
        x.set(1);
        x.rule(3);
        long before = x.digest();
        x.would(2, 1);
        Check.due("digest()", before, x.digest());
        x.best();
        Check.due("digest()", before, x.digest());
        Check.due("undo(0)", 2, x.undo(0));
    }

    private static void wouldRefused() {
        FrameSheets none = new FrameSheets();
        Check.leaves(none, "would, no sheet", Check.BAD, () -> none.would(0, 0));
        Check.leaves(none, "best, no sheet", Check.STATE, none::best);
        FrameSheets x = Check.sheet(MIXED);
        x.would(0, 0);
        Check.leaves(x, "would(4, 0)", Check.BAD, () -> x.would(4, 0));
        Check.leaves(x, "would(-1, 0)", Check.BAD, () -> x.would(-1, 0));
        Check.leaves(x, "would(0, 3)", Check.BAD, () -> x.would(0, 3));
        Check.leaves(x, "would(0, -1)", Check.BAD, () -> x.would(0, -1));
    }

    /** The pair by the words of the promise, from what each pair truly comes to. */
    private static int bestByTrying(String text) {
        int best = -1;
        int[] least = null;
        for (int rule = 0; rule < 4; rule++) {
            for (int order = 0; order < 3; order++) {
                FrameSheets y = Check.sheet(text);
                if (rule != 0) y.rule(rule);
                int pages = y.all(order);
                int[] it = {-y.count(1), pages, pages == 0 ? 0 : y.used(pages - 1)};
                if (least == null || java.util.Arrays.compare(it, least) < 0) {
                    least = it;
                    best = 10 * rule + order;
                }
            }
        }
        return best;
    }

    private static void best() {
        String[] texts = {
            MIXED,
            "page 7 6;frame 3 2 0 0 0 0;icon 2 5 0 0 0 0;frame 4 1 0 0 0 0;border 1 2 0 0 0 0;frame 5 3 0 0 0 0;",
            "page 5 5;icon 1 2 0 0 0 0;icon 2 2 0 0 0 0;icon 3 3 0 0 0 0;frame 5 2 0 0 0 0;icon 2 3 0 0 0 0;",
            "page 6 5;frame 1 1 0 0 0 0;frame 2 3 0 0 0 0;frame 5 3 0 0 0 0;frame 2 4 0 0 0 0;icon 1 5 0 0 0 0;",
            "page 4 4;icon 1 1 0 0 0 0;icon 4 4 0 0 0 0;",
        };
        for (String text : texts) {
            FrameSheets x = Check.sheet(text);
            int pair = bestByTrying(text);
            int pages = x.would(pair / 10, pair % 10);
            Check.tellsToo(x, "best() of " + text, pair, pages, x.best());
        }
    }

    private static void bestOfLikeOnes() {
        FrameSheets x = Check.sheet("page 4 4;icon 1 1 0 0 0 0;icon 4 4 0 0 0 0;");
        Check.tellsToo(x, "fewest places on the last page: most first", 1, 2, x.best());
        FrameSheets y = Check.sheet("page 4 4;icon 1 1 0 0 0 0;");
        Check.tellsToo(y, "of like ones the least", 0, 1, y.best());
        FrameSheets z = Check.sheet("page 4 4;icon 2 2 0 0 0 0;icon 1 4 0 0 0 0;icon 4 4 0 0 0 0;icon 3 3 0 0 0 0;");
        Check.due("best() is one of them", bestByTrying("page 4 4;icon 2 2 0 0 0 0;icon 1 4 0 0 0 0;icon 4 4 0 0 0 0;icon 3 3 0 0 0 0;"), z.best());
    }

    private static void bestOfNone() {
        FrameSheets x = Check.sheet("page 4 4;icon 5 1 0 0 0 0;");
        Check.tellsToo(x, "best() of none that has room", 0, 0, x.best());
        Check.tellsToo(x, "would(3, 2)", 0, 1, x.would(3, 2));
    }

    /**
     * Seed 1: 48271 (by 8 is 6033, modulo 8 is 7), 182605794 (22825724, 2), 1291394886
     * (161424360, 6), 1914720637 (239340079, 5), 2078669041 (259833630, 1), 407355683 (50919460, 3).
     */
    private static void lots() {
        FrameSheets x = Check.sheet("page 4 4;icon 1 1 0 0 0 0;icon 2 2 0 0 0 0;icon 3 3 0 0 0 0;");
        Check.due("lots(1, 1): 0 can't be lifted", 0, x.lots(1, 1));
        Check.due("deeds", 1, x.count(10));
        Check.due("undo(0)", 1, x.undo(0));
        Check.due("lots(2, 1): 2 is set", 1, x.lots(2, 1));
        Check.due("spot", 0, Check.spot(x, 2));
        x.undo(0);
        Check.due("lots(3, 1): 0 can't be lifted", 1, x.lots(3, 1));
        x.undo(0);
        Check.due("lots(4, 1): 1 can't be lifted", 1, x.lots(4, 1));
        x.undo(0);
        Check.due("lots(5, 1): 0 is set", 2, x.lots(5, 1));
        Check.due("deeds", 5, x.count(10));
        Check.due("spot", 30000, Check.spot(x, 0));
        x.undo(0);
        Check.due("lots(6, 1): 1 is set", 3, x.lots(6, 1));
        Check.due("spot", 1000000, Check.spot(x, 1));
        Check.due("lots(5, 1) again: 0, 1 are lifted, 0 is set", 2, x.lots(5, 1));
        Check.due("deeds", 11, x.count(10));
        Check.due("undo(7): all but its first", 4, x.undo(7));
        Check.due("0 was lifted", Check.NONE, Check.spot(x, 0));
        Check.due("set", 2, x.count(1));
    }

    /** Seeds whose first number is 8 k: 48271 times it modulo 2147483647. */
    private static void lotsOfRules() {
        int found = 0;
        for (int seed = 1; seed < 200; seed++) {
            long lot = seed * 48271L % 2147483647L;
            if (lot % 8 != 0) continue;
            FrameSheets x = Check.sheet("page 4 4;icon 1 1 0 0 0 0;");
            x.rule(3);
            Check.due("lots(1, " + seed + ")", 0, x.lots(1, seed));
            Check.due("rule", lot / 64 % 4, x.count(6));
            Check.due("a deed, be it of nothing", 2, x.count(10));
            found++;
        }
        Check.due("seeds of rules", 1, found > 10 ? 1 : 0);
    }

    private static void lotsRefused() {
        FrameSheets none = new FrameSheets();
        Check.leaves(none, "lots(21, 1), no sheet", Check.BAD, () -> none.lots(21, 1));
        Check.leaves(none, "lots(1, 1), no sheet", Check.STATE, () -> none.lots(1, 1));
        FrameSheets x = Check.sheet("page 4 4;icon 1 1 0 0 0 0;frame 5 5 0 0 0 0;");
        Check.leaves(x, "lots(0, 1)", Check.BAD, () -> x.lots(0, 1));
        Check.leaves(x, "lots(-1, 1)", Check.BAD, () -> x.lots(-1, 1));
        Check.leaves(x, "lots(21, 1)", Check.BAD, () -> x.lots(21, 1));
        Check.leaves(x, "lots(1, 0)", Check.BAD, () -> x.lots(1, 0));
        Check.leaves(x, "lots(1, -1)", Check.BAD, () -> x.lots(1, -1));
        Check.leaves(x, "lots(1, 2147483647)", Check.BAD, () -> x.lots(1, 2147483647));
        Check.due("lots(20, 2147483646) goes", 1, x.lots(20, 2147483646) >= 0 ? 1 : 0);
        x.lots(19, 5);
        Check.due("deeds", 39, x.count(10));
        Check.leaves(x, "lots(2, 1)", Check.FULL, () -> x.lots(2, 1));
        Check.leaves(x, "lots(21, 1), nearly full", Check.BAD, () -> x.lots(21, 1));
        Check.due("lots(1, 1)", x.count(1), x.lots(1, 1));
        Check.leaves(x, "lots(1, 1), full", Check.FULL, () -> x.lots(1, 1));
        Check.due("one that no page has room for", Check.NONE, Check.spot(x, 1));
    }
}
