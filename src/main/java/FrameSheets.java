/**
 * Sheets of pictures: frames of an animation, trimmed and set on pages where by a rule there is
 * the best room. The document's promises are named by number at the calls that keep them.
 *
 * All rows that calls work on are made by the constructor and used again, so that a long run of
 * calls makes no further objects.
 */
public final class FrameSheets {
    public static final int BAD = -1, FULL = -2, FINDING = -3, STATE = -4, SPENT = -6, NONE = -9;

    private static final int NOTHING = 1, BEYOND = 2, UNLIKE = 3, NOUGHT = 4, SIZE = 5;
    private static final int FINDINGS = 5;

    private static final int ROWS = 6, ROW_MOST = 40;
    private static final int TEXTS = 4, TEXT_MOST = 120;
    private static final int KEPT = 3, DEEDS = 40, LOTS_MOST = 20;
    private static final int FRAMES = 8, PAGES = 8, RULES = 4, ORDERS = 3, COUNTS = 14;
    private static final int SIDE_LEAST = 4, SIDE_MOST = 16, BLEED_MOST = 2, EMPTY_MOST = 9;
    private static final int FRAME = 0, ICON = 1, BORDER = 2, LOGO = 3, KINDS = 4;
    private static final int FRAME_TELLS = 5, PLACE_TELLS = 4, FREE_TELLS = 4;
    private static final int BLANK = 32, STOP_SIGN = 59;
    private static final int MISSING = -1;
    private static final int LOT_MODULUS = 2147483647, LOT_FACTOR = 48271;

    private final Row[] rows = new Row[ROWS];
    private final Text[] texts = new Text[TEXTS];
    private final Story[] kept = new Story[KEPT];
    private final boolean[] isKept = new boolean[KEPT];
    private final Story story = new Story();
    private final Reader reader = new Reader();
    private final Scribe scribe = new Scribe();
    private final Packer packer = new Packer();
    private final Layout aside = new Layout();
    private final int[] findingCounts = new int[FINDINGS + 1];
    private Sheet current = new Sheet();
    private int told = 0;
    private int latestFinding = 0;

    /** Promise 1. */
    public FrameSheets() {
        for (int r = 0; r < ROWS; r++) rows[r] = new Row();
        for (int t = 0; t < TEXTS; t++) texts[t] = new Text();
        for (int k = 0; k < KEPT; k++) kept[k] = new Story();
    }

    // ---- 1 rows, texts, sheets

    /** Promise 2. */
    public int row(int r, int n) {
        if (!isBelow(r, ROWS) || n > ROW_MOST) return BAD;
        if (n < 0) return refuse(SIZE);
        rows[r].renew(n);
        return n;
    }

    /** Promise 3. */
    public int lay(int r, int i, int v) {
        if (!isBelow(r, ROWS)) return BAD;
        Row it = rows[r];
        if (it.isMissing()) return refuse(NOTHING);
        if (!isBelow(i, it.size)) return refuse(BEYOND);
        int before = it.places[i];
        it.places[i] = v;
        return tell(before);
    }

    /** Promise 4. */
    public int at(int r, int i) {
        if (!isBelow(r, ROWS)) return BAD;
        Row it = rows[r];
        if (it.isMissing()) return refuse(NOTHING);
        if (!isBelow(i, it.size)) return refuse(BEYOND);
        return tell(it.places[i]);
    }

    /** Promise 5. */
    public int tear(int r) {
        if (!isBelow(r, ROWS)) return BAD;
        if (rows[r].isMissing()) return refuse(NOTHING);
        rows[r].size = MISSING;
        return 1;
    }

    /** Promise 6. */
    public int copy(int r, int i, int to, int j, int n) {
        if (!isBelow(r, ROWS) || !isBelow(to, ROWS)) return BAD;
        if (n < 0) return refuse(SIZE);
        Row source = rows[r];
        Row target = rows[to];
        if (source.isMissing() || target.isMissing()) return refuse(NOTHING);
        if (!source.holds(i, n) || !target.holds(j, n)) return refuse(BEYOND);
        System.arraycopy(source.places, i, target.places, j, n);
        return 1;
    }

    /** Promise 7. */
    public int mean(int r) {
        if (!isBelow(r, ROWS)) return BAD;
        Row it = rows[r];
        if (it.isMissing()) return refuse(NOTHING);
        if (it.size == 0) return refuse(NOUGHT);
        return tell((int) (it.sum() / it.size));
    }

    /** Promise 8. */
    public int text(int t, int n) {
        if (!isBelow(t, TEXTS) || n > TEXT_MOST) return BAD;
        if (n < 0) return refuse(SIZE);
        texts[t].renew(n);
        return n;
    }

    /** Promise 9. */
    public int put(int t, int i, int v) {
        if (!isBelow(t, TEXTS)) return BAD;
        Text it = texts[t];
        if (it.isMissing()) return refuse(NOTHING);
        if (!isBelow(i, it.size)) return refuse(BEYOND);
        int before = it.bytes[i];
        it.bytes[i] = (byte) v;
        return 1000 + before;
    }

    /** Promise 10. */
    public int fault(int t) {
        if (!isBelow(t, TEXTS)) return BAD;
        if (texts[t].isMissing()) return refuse(NOTHING);
        return reader.faultOf(texts[t]);
    }

    /** Promise 11. */
    public int sheet(int t) {
        if (!isBelow(t, TEXTS)) return BAD;
        if (texts[t].isMissing()) return refuse(NOTHING);
        if (reader.faultOf(texts[t]) != NONE) return STATE;
        current = reader.exchangeDraft(current);
        story.start();
        for (int k = 0; k < KEPT; k++) isKept[k] = false;
        return current.size;
    }

    /** Promise 12. */
    public int write(int t) {
        if (!isBelow(t, TEXTS)) return BAD;
        if (hasNoSheet()) return STATE;
        scribe.writeSheet(current);
        if (scribe.size > TEXT_MOST) return SPENT;
        texts[t].takeOver(scribe.bytes, scribe.size);
        return scribe.size;
    }

    /** Promise 13. */
    public int frame(int f, int what) {
        if (!isBelow(f, current.size) || !isBelow(what, FRAME_TELLS)) return BAD;
        return tell(current.frames[f].part(what));
    }

    /** Promise 14. */
    public int place(int f, int what) {
        if (!isBelow(f, current.size) || !isBelow(what, PLACE_TELLS)) return BAD;
        if (!story.now.isSet(f)) return NONE;
        return tell(story.now.part(f, what));
    }

    /** Promise 15. */
    public int mark(int f, int kind) {
        if (!isBelow(f, current.size) || kind < ICON || kind >= KINDS) return BAD;
        Frame it = current.frames[f];
        if (!it.isOf(kind)) return refuse(UNLIKE);
        if (kind == ICON) return Math.abs(it.across - it.down);
        if (kind == BORDER) return it.edgePlaces();
        return it.emptyPoints();
    }

    // ---- 2 deeds

    /** Promise 16. */
    public int set(int f) {
        if (!isBelow(f, current.size)) return BAD;
        if (story.now.isSet(f)) return STATE;
        int spot = packer.spotFor(current, story.now, f);
        if (spot == NONE) return SPENT;
        if (story.isFull()) return FULL;
        story.beginDeed();
        story.now.spots[f] = spot;
        return story.now.pageOf(f);
    }

    /** Promise 17. */
    public int lift(int f) {
        if (!isBelow(f, current.size)) return BAD;
        if (!story.now.isSet(f)) return STATE;
        if (story.isFull()) return FULL;
        story.beginDeed();
        story.now.spots[f] = NONE;
        return story.now.pages();
    }

    /** Promise 18. */
    public int all(int order) {
        if (!isBelow(order, ORDERS) || hasNoSheet()) return BAD;
        if (story.isFull()) return FULL;
        story.beginDeed();
        packer.setAllAnew(current, story.now, order);
        return story.now.pages();
    }

    /** Promise 19. */
    public int rule(int k) {
        if (!isBelow(k, RULES)) return BAD;
        if (hasNoSheet() || story.now.rule == k) return STATE;
        if (story.isFull()) return FULL;
        int before = story.now.rule;
        story.beginDeed();
        story.now.rule = k;
        return before;
    }

    /** Promise 20. */
    public int undo(int n) {
        if (n < 0 || n > story.deeds) return BAD;
        int undone = story.deeds - n;
        story.goBackTo(n);
        return undone;
    }

    /** Promise 21. */
    public int keep(int k) {
        if (!isBelow(k, KEPT)) return BAD;
        if (hasNoSheet()) return STATE;
        kept[k].takeOver(story);
        isKept[k] = true;
        return story.deeds;
    }

    /** Promise 22. */
    public int on(int k) {
        if (!isBelow(k, KEPT)) return BAD;
        if (!isKept[k]) return refuse(NOTHING);
        story.takeOver(kept[k]);
        return story.deeds;
    }

    // ---- 3 what is where

    /** Promise 23. */
    public int free(int page, int k, int what) {
        if (!isPage(page) || k < 0 || !isBelow(what, FREE_TELLS)) return BAD;
        Room room = packer.room;
        room.look(current, story.now, page);
        if (k >= room.size) return NONE;
        return tell(room.part(k, what));
    }

    /** Promise 24. */
    public int seen(int page, int x, int y) {
        if (!isPage(page) || !isBelow(x, current.wide) || !isBelow(y, current.high)) return BAD;
        for (int f = 0; f < current.size; f++) {
            if (takesPlace(f, page, x, y)) {
                told = pointSeen(f, x, y);
                return f;
            }
        }
        return NONE;
    }

    /** Promise 25. */
    public int point(int f, int column, int row) {
        if (!isBelow(f, current.size)) return BAD;
        Frame it = current.frames[f];
        if (!isBelow(column, it.w) || !isBelow(row, it.h)) return BAD;
        Layout now = story.now;
        if (!now.isSet(f)) return STATE;
        int c = column - it.firstColumn;
        int r = row - it.firstRow;
        if (!isBelow(c, it.across) || !isBelow(r, it.down)) return NONE;
        boolean turned = now.isTurned(f);
        int x = now.xOf(f) + it.edge + (turned ? r : c);
        int y = now.yOf(f) + it.edge + (turned ? c : r);
        return 10000 * now.pageOf(f) + 100 * x + y;
    }

    /** Promise 26. */
    public int used(int page) {
        if (!isPage(page)) return BAD;
        int taken = current.placesTaken(story.now, page);
        int places = current.wide * current.high;
        told = places == 0 ? 0 : 100 * taken / places;
        return taken;
    }

    /** Promise 27. */
    public int takes(int page) {
        if (!isPage(page)) return BAD;
        Room room = packer.room;
        room.look(current, story.now, page);
        int bits = 0;
        for (int f = 0; f < current.size; f++) {
            if (!story.now.isSet(f) && room.bestSpot(current.frames[f], 0) != NONE) bits |= 1 << f;
        }
        told = room.greatest();
        return bits;
    }

    // ---- 4 what would be (aside)

    /** Promise 28. */
    public int would(int rule, int order) {
        if (!isBelow(rule, RULES) || !isBelow(order, ORDERS) || hasNoSheet()) return BAD;
        aside.rule = rule;
        packer.setAllAnew(current, aside, order);
        int bits = 0;
        for (int f = 0; f < current.size; f++) {
            if (!aside.isSet(f)) bits |= 1 << f;
        }
        told = bits;
        return aside.pages();
    }

    /** Promise 29. */
    public int best() {
        if (hasNoSheet()) return STATE;
        int bestScore = 0;
        int bestPages = 0;
        int bestPair = NONE;
        for (int rule = 0; rule < RULES; rule++) {
            for (int order = 0; order < ORDERS; order++) {
                aside.rule = rule;
                packer.setAllAnew(current, aside, order);
                int score = shortcoming(aside);
                if (bestPair == NONE || score < bestScore) {
                    bestScore = score;
                    bestPages = aside.pages();
                    bestPair = 10 * rule + order;
                }
            }
        }
        told = bestPages;
        return bestPair;
    }

    // ---- 5 lots

    /** Promise 30. */
    public int lots(int n, int seed) {
        if (n < 1 || n > LOTS_MOST || seed < 1 || seed == LOT_MODULUS) return BAD;
        if (hasNoSheet()) return STATE;
        if (story.deeds + n > DEEDS) return FULL;
        long lot = seed;
        for (int i = 0; i < n; i++) {
            lot = lot * LOT_FACTOR % LOT_MODULUS;
            story.beginDeed();
            doLot((int) lot);
        }
        return story.now.framesSet();
    }

    // ---- 6 what is told

    /** Promise 31. */
    public int asked() {
        return told;
    }

    /** Promise 32. */
    public int count(int what) {
        Layout now = story.now;
        switch (what) {
            case 0: return current.size;
            case 1: return now.framesSet();
            case 2: return now.pages();
            case 3: return current.wide;
            case 4: return current.high;
            case 5: return current.bleed;
            case 6: return now.rule;
            case 7: return placesTakenOnAllPages();
            case 8: return freeOnAllPages();
            case 9: return now.framesTurned();
            case 10: return story.deeds;
            case 11: return rowsThere();
            case 12: return textsThere();
            case 13: return sheetsKept();
            default: return BAD;
        }
    }

    /** Promise 33. */
    public int finding() {
        return latestFinding;
    }

    /** Promise 34. */
    public int findings(int f) {
        if (f < 1 || f > FINDINGS) return BAD;
        return findingCounts[f];
    }

    /** Promise 35. */
    public long digest() {
        long h = 17;
        for (int what = 0; what < COUNTS; what++) h = 31 * h + count(what);
        for (int f = 0; f < current.size; f++) h = withFrame(h, f);
        for (int k = 0; k < KEPT; k++) h = 31 * h + (isKept[k] ? kept[k].deeds : MISSING);
        for (int r = 0; r < ROWS; r++) {
            h = 31 * h + rows[r].size;
            for (int i = 0; i < rows[r].size; i++) h = 31 * h + rows[r].places[i];
        }
        for (int t = 0; t < TEXTS; t++) {
            h = 31 * h + texts[t].size;
            for (int i = 0; i < texts[t].size; i++) h = 31 * h + texts[t].bytes[i];
        }
        return h;
    }

    // ---- what the calls share

    private static boolean isBelow(int i, int bound) {
        return i >= 0 && i < bound;
    }

    private boolean hasNoSheet() {
        return current.size == 0;
    }

    private boolean isPage(int page) {
        return isBelow(page, story.now.pages());
    }

    private int refuse(int finding) {
        latestFinding = finding;
        findingCounts[finding]++;
        return FINDING;
    }

    private int tell(int v) {
        told = v;
        return 1;
    }

    private boolean takesPlace(int f, int page, int x, int y) {
        Layout now = story.now;
        if (!now.isSet(f) || now.pageOf(f) != page) return false;
        Frame it = current.frames[f];
        boolean turned = now.isTurned(f);
        return isBelow(x - now.xOf(f), it.needsAcross(turned))
                && isBelow(y - now.yOf(f), it.needsDown(turned));
    }

    private int pointSeen(int f, int x, int y) {
        Layout now = story.now;
        Frame it = current.frames[f];
        int across = x - now.xOf(f) - it.edge;
        int down = y - now.yOf(f) - it.edge;
        boolean turned = now.isTurned(f);
        int column = nearest(turned ? down : across, it.across);
        int row = nearest(turned ? across : down, it.down);
        return 100 * (column + it.firstColumn) + row + it.firstRow;
    }

    private static int nearest(int i, int bound) {
        return Math.max(0, Math.min(i, bound - 1));
    }

    /** Less is better: frames left over weigh most, then pages, then places on the last page. */
    private int shortcoming(Layout layout) {
        int pages = layout.pages();
        int onLast = current.placesTaken(layout, pages - 1);
        int leftOver = current.size - layout.framesSet();
        return (leftOver * (PAGES + 1) + pages) * (SIDE_MOST * SIDE_MOST + 1) + onLast;
    }

    private void doLot(int lot) {
        if (hasNoSheet()) return;
        int f = (lot / 8) % current.size;
        int deed = lot % 8;
        Layout now = story.now;
        if (deed == 0) {
            now.rule = (lot / 64) % RULES;
        } else if (deed > 4) {
            now.spots[f] = NONE;
        } else if (!now.isSet(f)) {
            now.spots[f] = packer.spotFor(current, now, f);
        }
    }

    private int placesTakenOnAllPages() {
        int sum = 0;
        int pages = story.now.pages();
        for (int page = 0; page < pages; page++) sum += current.placesTaken(story.now, page);
        return sum;
    }

    private int freeOnAllPages() {
        int sum = 0;
        int pages = story.now.pages();
        for (int page = 0; page < pages; page++) {
            packer.room.look(current, story.now, page);
            sum += packer.room.size;
        }
        return sum;
    }

    private int rowsThere() {
        int n = 0;
        for (int r = 0; r < ROWS; r++) if (!rows[r].isMissing()) n++;
        return n;
    }

    private int textsThere() {
        int n = 0;
        for (int t = 0; t < TEXTS; t++) if (!texts[t].isMissing()) n++;
        return n;
    }

    private int sheetsKept() {
        int n = 0;
        for (int k = 0; k < KEPT; k++) if (isKept[k]) n++;
        return n;
    }

    private long withFrame(long before, int f) {
        long h = before;
        for (int what = 0; what < FRAME_TELLS; what++) h = 31 * h + current.frames[f].part(what);
        if (!story.now.isSet(f)) return 31 * h - 1;
        for (int what = 0; what < PLACE_TELLS; what++) h = 31 * h + story.now.part(f, what);
        return h;
    }

    /** A ROW; its size tells whether it is there, its places are made once and used again. */
    private static final class Row {
        final int[] places = new int[ROW_MOST];
        int size = MISSING;

        boolean isMissing() {
            return size == MISSING;
        }

        void renew(int n) {
            size = Math.max(0, Math.min(n, ROW_MOST));
            for (int i = 0; i < size; i++) places[i] = 0;
        }

        /** Written without i + n, which could wrap around. */
        boolean holds(int i, int n) {
            return i >= 0 && i <= size && n <= size - i;
        }

        /** A long, for forty ints together may be more than an int. */
        long sum() {
            long sum = 0;
            for (int i = 0; i < size; i++) sum += places[i];
            return sum;
        }
    }

    /** A TEXT; its size tells whether it is there, its bytes are made once and used again. */
    private static final class Text {
        final byte[] bytes = new byte[TEXT_MOST];
        int size = MISSING;

        boolean isMissing() {
            return size == MISSING;
        }

        void renew(int n) {
            size = Math.max(0, Math.min(n, TEXT_MOST));
            for (int i = 0; i < size; i++) bytes[i] = BLANK;
        }

        void takeOver(byte[] source, int n) {
            size = Math.max(0, Math.min(n, Math.min(source.length, TEXT_MOST)));
            System.arraycopy(source, 0, bytes, 0, size);
        }
    }

    /** A FRAME as its statement tells it, and what follows from that on its SHEET. */
    private static final class Frame {
        int kind, w, h, left, above, right, below;
        /** Settled when the SHEET is read: the edge, what is TRIMMED to, the first point of that. */
        int edge, across, down, firstColumn, firstRow;

        void settle(int bleed) {
            boolean isTrimmed = kind != LOGO;
            edge = kind == BORDER ? bleed + 1 : bleed;
            across = isTrimmed ? w - left - right : w;
            down = isTrimmed ? h - above - below : h;
            firstColumn = isTrimmed ? left : 0;
            firstRow = isTrimmed ? above : 0;
        }

        boolean isOf(int other) {
            return other == FRAME || kind == other || (kind == LOGO && other == ICON);
        }

        boolean mayTurn() {
            return !isOf(ICON);
        }

        int needsAcross(boolean turned) {
            return (turned ? down : across) + 2 * edge;
        }

        int needsDown(boolean turned) {
            return (turned ? across : down) + 2 * edge;
        }

        int needsPlaces() {
            return needsAcross(false) * needsDown(false);
        }

        int edgePlaces() {
            return needsPlaces() - across * down;
        }

        int emptyPoints() {
            return w * h - (w - left - right) * (h - above - below);
        }

        int part(int what) {
            switch (what) {
                case 0: return kind;
                case 1: return across;
                case 2: return down;
                case 3: return needsAcross(false);
                default: return needsDown(false);
            }
        }
    }

    /** What a TEXT tells; without FRAMES it is no SHEET. */
    private static final class Sheet {
        final Frame[] frames = new Frame[FRAMES];
        int size = 0;
        int wide = 0;
        int high = 0;
        int bleed = 0;

        Sheet() {
            for (int f = 0; f < FRAMES; f++) frames[f] = new Frame();
        }

        /** Only when the whole TEXT is read: bleed may stand behind the FRAMES. */
        void settleFrames() {
            for (int f = 0; f < size; f++) frames[f].settle(bleed);
        }

        int placesTaken(Layout layout, int page) {
            int sum = 0;
            for (int f = 0; f < size; f++) {
                if (layout.isSet(f) && layout.pageOf(f) == page) sum += frames[f].needsPlaces();
            }
            return sum;
        }
    }

    /** Reads a TEXT into a draft, so that a TEXT with a FAULT leaves the SHEET as it is. */
    private static final class Reader {
        private static final int END = 0, WORD = 1, NUMBER = 2, STOP = 3, OTHER = 4;
        /** Above every number that may be; larger ones are cut to it, so that none wraps around. */
        private static final int TOO_GREAT = 1000;

        private Sheet draft = new Sheet();
        private byte[] bytes = new byte[0];
        private int size = 0;
        private int token = END;
        private int from = 0;
        private int to = 0;
        private int value = 0;
        private boolean bleedIsTold = false;

        /** The draft is handed out for another one, which the next TEXT is read into. */
        Sheet exchangeDraft(Sheet other) {
            Sheet done = draft;
            draft = other;
            return done;
        }

        /** NONE, or where the token at hand begins: each FAULT is found at the token it lies at. */
        int faultOf(Text source) {
            bytes = source.bytes;
            size = Math.min(source.size, bytes.length);
            to = 0;
            bleedIsTold = false;
            draft.size = 0;
            draft.bleed = 0;
            advance();
            if (!readPage()) return from;
            for (int i = 0; i < size && token != END; i++) {
                if (!readStatement()) return from;
            }
            if (draft.size == 0) return from;
            draft.settleFrames();
            return NONE;
        }

        private boolean readPage() {
            if (!isAtWord("page")) return false;
            advance();
            draft.wide = takeNumber(SIDE_LEAST, SIDE_MOST);
            if (draft.wide == NONE) return false;
            draft.high = takeNumber(SIDE_LEAST, SIDE_MOST);
            return draft.high != NONE && takeStop();
        }

        private boolean readStatement() {
            if (isAtWord("bleed")) return readBleed();
            int kind = kindAtHand();
            if (kind == NONE || draft.size >= FRAMES) return false;
            advance();
            Frame it = draft.frames[draft.size];
            it.kind = kind;
            if (!readSides(it) || !readEmpty(it) || !takeStop()) return false;
            draft.size++;
            return true;
        }

        private boolean readBleed() {
            if (bleedIsTold) return false;
            bleedIsTold = true;
            advance();
            draft.bleed = takeNumber(0, BLEED_MOST);
            return draft.bleed != NONE && takeStop();
        }

        private boolean readSides(Frame it) {
            it.w = takeNumber(1, SIDE_MOST);
            if (it.w == NONE) return false;
            it.h = takeNumber(1, SIDE_MOST);
            return it.h != NONE;
        }

        private boolean readEmpty(Frame it) {
            it.left = takeNumber(0, EMPTY_MOST);
            if (it.left == NONE) return false;
            it.above = takeNumber(0, EMPTY_MOST);
            if (it.above == NONE) return false;
            it.right = takeNumber(0, Math.min(EMPTY_MOST, it.w - it.left - 1));
            if (it.right == NONE) return false;
            it.below = takeNumber(0, Math.min(EMPTY_MOST, it.h - it.above - 1));
            return it.below != NONE;
        }

        /** NONE, and the token stays at hand, if it is no number from least to most. */
        private int takeNumber(int least, int most) {
            if (token != NUMBER || value < least || value > most) return NONE;
            int taken = value;
            advance();
            return taken;
        }

        private boolean takeStop() {
            if (token != STOP) return false;
            advance();
            return true;
        }

        private int kindAtHand() {
            for (int kind = 0; kind < KINDS; kind++) {
                if (isAtWord(wordOf(kind))) return kind;
            }
            return NONE;
        }

        private boolean isAtWord(String word) {
            if (token != WORD || to - from != word.length()) return false;
            for (int i = from; i < to; i++) {
                if (bytes[i] != word.charAt(i - from)) return false;
            }
            return true;
        }

        private void advance() {
            int i = to;
            while (i < size && bytes[i] == BLANK) i++;
            from = i;
            if (i >= size) {
                token = END;
            } else if (isLetter(bytes[i])) {
                token = WORD;
                while (i < size && isLetter(bytes[i])) i++;
            } else if (isFigure(bytes[i])) {
                token = NUMBER;
                value = 0;
                while (i < size && isFigure(bytes[i])) {
                    value = Math.min(TOO_GREAT, 10 * value + bytes[i] - '0');
                    i++;
                }
            } else {
                token = bytes[i] == STOP_SIGN ? STOP : OTHER;
                i++;
            }
            to = i;
        }

        private static boolean isLetter(byte b) {
            return b >= 'a' && b <= 'z';
        }

        private static boolean isFigure(byte b) {
            return b >= '0' && b <= '9';
        }
    }

    private static String wordOf(int kind) {
        switch (kind) {
            case ICON: return "icon";
            case BORDER: return "border";
            case LOGO: return "logo";
            default: return "frame";
        }
    }

    /** Writes a SHEET; size counts all its bytes, also those that no TEXT could hold. */
    private static final class Scribe {
        final byte[] bytes = new byte[TEXT_MOST];
        int size = 0;

        void writeSheet(Sheet it) {
            size = 0;
            addWord("page");
            addNumber(it.wide);
            addNumber(it.high);
            addSign(STOP_SIGN);
            if (it.bleed != 0) {
                addWord("bleed");
                addNumber(it.bleed);
                addSign(STOP_SIGN);
            }
            for (int f = 0; f < it.size; f++) writeFrame(it.frames[f]);
        }

        private void writeFrame(Frame it) {
            addWord(wordOf(it.kind));
            addNumber(it.w);
            addNumber(it.h);
            addNumber(it.left);
            addNumber(it.above);
            addNumber(it.right);
            addNumber(it.below);
            addSign(STOP_SIGN);
        }

        private void addWord(String word) {
            for (int i = 0; i < word.length(); i++) addSign(word.charAt(i));
        }

        /** A number never stands first in a statement, so its blank goes ahead of it. */
        private void addNumber(int n) {
            addSign(BLANK);
            if (n >= 10) addSign('0' + n / 10);
            addSign('0' + n % 10);
        }

        private void addSign(int sign) {
            if (size < TEXT_MOST) bytes[size] = (byte) sign;
            size++;
        }
    }

    /** Where FRAMES are SET, a spot for each one, and the RULE: all that a DEED can change. */
    private static final class Layout {
        private static final int PAGE_UNIT = 512, X_UNIT = 32, Y_UNIT = 2;

        final int[] spots = new int[FRAMES];
        int rule = 0;

        Layout() {
            for (int f = 0; f < FRAMES; f++) spots[f] = NONE;
        }

        /** One int for all of a place, so that a state of the SHEET is a short row of ints. */
        static int spotAt(int x, int y, boolean turned) {
            return x * X_UNIT + y * Y_UNIT + (turned ? 1 : 0);
        }

        static int spotOnPage(int page, int spot) {
            return page * PAGE_UNIT + spot;
        }

        void liftAll() {
            for (int f = 0; f < FRAMES; f++) spots[f] = NONE;
        }

        boolean isSet(int f) {
            return spots[f] != NONE;
        }

        int pageOf(int f) {
            return spots[f] / PAGE_UNIT;
        }

        int xOf(int f) {
            return spots[f] % PAGE_UNIT / X_UNIT;
        }

        int yOf(int f) {
            return spots[f] % X_UNIT / Y_UNIT;
        }

        boolean isTurned(int f) {
            return spots[f] % Y_UNIT == 1;
        }

        int part(int f, int what) {
            switch (what) {
                case 0: return pageOf(f);
                case 1: return xOf(f);
                case 2: return yOf(f);
                default: return isTurned(f) ? 1 : 0;
            }
        }

        int pages() {
            int pages = 0;
            for (int f = 0; f < FRAMES; f++) {
                if (isSet(f)) pages = Math.max(pages, pageOf(f) + 1);
            }
            return pages;
        }

        int framesSet() {
            int n = 0;
            for (int f = 0; f < FRAMES; f++) if (isSet(f)) n++;
            return n;
        }

        int framesTurned() {
            int n = 0;
            for (int f = 0; f < FRAMES; f++) if (isSet(f) && isTurned(f)) n++;
            return n;
        }
    }

    /** The SHEET as it is now, and as it was ahead of each of its DEEDS. */
    private static final class Story {
        /** The spots, and behind them the RULE. */
        private static final int STATE_SIZE = FRAMES + 1;

        final Layout now = new Layout();
        private final int[] past = new int[DEEDS * STATE_SIZE];
        int deeds = 0;

        boolean isFull() {
            return deeds >= DEEDS;
        }

        void start() {
            now.liftAll();
            now.rule = 0;
            deeds = 0;
        }

        void beginDeed() {
            if (isFull()) return;
            int base = deeds * STATE_SIZE;
            System.arraycopy(now.spots, 0, past, base, FRAMES);
            past[base + FRAMES] = now.rule;
            deeds++;
        }

        void goBackTo(int n) {
            if (n < 0 || n >= deeds) return;
            int base = n * STATE_SIZE;
            System.arraycopy(past, base, now.spots, 0, FRAMES);
            now.rule = past[base + FRAMES];
            deeds = n;
        }

        void takeOver(Story other) {
            System.arraycopy(other.now.spots, 0, now.spots, 0, FRAMES);
            now.rule = other.now.rule;
            System.arraycopy(other.past, 0, past, 0, other.deeds * STATE_SIZE);
            deeds = other.deeds;
        }
    }

    /** One PAGE as it was looked at last: the places taken, and its FREE rectangles in order. */
    private static final class Room {
        /**
         * Eight FRAMES leave at most 9 tops and 9 bottoms of FREE rectangles, and side by side
         * between a top and a bottom no more than 9.
         */
        private static final int FREE_MOST = 9 * 9 * 9;
        /** A rectangle is one int: y, x, how wide, how high, so that ints are in their order. */
        private static final int UNIT = 32;
        /** The second number of a RULE is less than this. */
        private static final int SECOND_UNIT = 32;

        private final int[] taken = new int[SIDE_MOST];
        private final int[] free = new int[FREE_MOST];
        private int wide = 0;
        private int high = 0;
        int size = 0;

        void look(Sheet sheet, Layout layout, int page) {
            wide = Math.min(sheet.wide, SIDE_MOST);
            high = Math.min(sheet.high, SIDE_MOST);
            for (int y = 0; y < high; y++) taken[y] = 0;
            for (int f = 0; f < sheet.size; f++) {
                if (layout.isSet(f) && layout.pageOf(f) == page) cover(sheet.frames[f], layout, f);
            }
            findFree();
        }

        private void cover(Frame it, Layout layout, int f) {
            boolean turned = layout.isTurned(f);
            int columns = span(layout.xOf(f), it.needsAcross(turned));
            int top = layout.yOf(f);
            int end = Math.min(high, top + it.needsDown(turned));
            for (int y = top; y < end; y++) taken[y] |= columns;
        }

        /** Bits of the columns from x on. */
        private static int span(int x, int n) {
            return (1 << (x + n)) - (1 << x);
        }

        /**
         * Between each top and each bottom the columns that are all free: a run of them that
         * something ends above and below as well lies in no greater free rectangle.
         */
        private void findFree() {
            size = 0;
            int whole = span(0, wide);
            for (int top = 0; top < high; top++) {
                int above = top == 0 ? whole : taken[top - 1];
                int open = whole & ~taken[top];
                for (int bottom = top; bottom < high && (open & above) != 0; bottom++) {
                    int below = bottom == high - 1 ? whole : taken[bottom + 1];
                    if ((open & below) != 0) addRuns(open, above, below, top, bottom - top + 1);
                    open &= ~below;
                }
            }
        }

        private void addRuns(int open, int above, int below, int y, int down) {
            int x = 0;
            while (x < wide) {
                int end = x;
                while (end < wide && ((open >> end) & 1) != 0) end++;
                int run = span(x, end - x);
                if ((run & above) != 0 && (run & below) != 0) {
                    insert(((y * UNIT + x) * UNIT + end - x) * UNIT + down);
                }
                x = end + 1;
            }
        }

        private void insert(int rectangle) {
            if (size >= FREE_MOST) return;
            int i = size;
            while (i > 0 && free[i - 1] > rectangle) {
                free[i] = free[i - 1];
                i--;
            }
            free[i] = rectangle;
            size++;
        }

        int part(int k, int what) {
            switch (what) {
                case 0: return xOf(free[k]);
                case 1: return yOf(free[k]);
                case 2: return acrossOf(free[k]);
                default: return downOf(free[k]);
            }
        }

        private static int yOf(int rectangle) {
            return rectangle / (UNIT * UNIT * UNIT);
        }

        private static int xOf(int rectangle) {
            return rectangle / (UNIT * UNIT) % UNIT;
        }

        private static int acrossOf(int rectangle) {
            return rectangle / UNIT % UNIT;
        }

        private static int downOf(int rectangle) {
            return rectangle % UNIT;
        }

        int greatest() {
            int most = 0;
            for (int k = 0; k < size; k++) most = Math.max(most, acrossOf(free[k]) * downOf(free[k]));
            return most;
        }

        /** The spot on this PAGE, or NONE; the first of like ones stays, so only less replaces. */
        int bestSpot(Frame it, int rule) {
            int best = NONE;
            int least = 0;
            int ways = it.mayTurn() ? 2 : 1;
            for (int k = 0; k < size; k++) {
                for (int way = 0; way < ways; way++) {
                    boolean turned = way == 1;
                    int across = it.needsAcross(turned);
                    int down = it.needsDown(turned);
                    if (across > acrossOf(free[k]) || down > downOf(free[k])) continue;
                    int numbers = numbersOf(rule, free[k], across, down);
                    if (best == NONE || numbers < least) {
                        least = numbers;
                        best = Layout.spotAt(xOf(free[k]), yOf(free[k]), turned);
                    }
                }
            }
            return best;
        }

        /** Both numbers of a RULE as one: the first weighs more than any second. */
        private static int numbersOf(int rule, int rectangle, int across, int down) {
            int leftAcross = acrossOf(rectangle) - across;
            int leftDown = downOf(rectangle) - down;
            int less = Math.min(leftAcross, leftDown);
            int greater = Math.max(leftAcross, leftDown);
            int places = acrossOf(rectangle) * downOf(rectangle) - across * down;
            switch (rule) {
                case 1: return places * SECOND_UNIT + less;
                case 2: return (yOf(rectangle) + down) * SECOND_UNIT + xOf(rectangle);
                case 3: return greater * SECOND_UNIT + less;
                default: return less * SECOND_UNIT + greater;
            }
        }
    }

    /** Finds spots for FRAMES on the PAGES of a layout, be it the SHEET's own or one aside. */
    private static final class Packer {
        final Room room = new Room();
        private final int[] queue = new int[FRAMES];

        int spotFor(Sheet sheet, Layout layout, int f) {
            int pages = layout.pages();
            for (int page = 0; page <= pages && page < PAGES; page++) {
                room.look(sheet, layout, page);
                int spot = room.bestSpot(sheet.frames[f], layout.rule);
                if (spot != NONE) return Layout.spotOnPage(page, spot);
            }
            return NONE;
        }

        void setAllAnew(Sheet sheet, Layout layout, int order) {
            layout.liftAll();
            fillQueue(sheet, order);
            for (int i = 0; i < sheet.size; i++) {
                layout.spots[queue[i]] = spotFor(sheet, layout, queue[i]);
            }
        }

        private void fillQueue(Sheet sheet, int order) {
            for (int f = 0; f < sheet.size; f++) {
                int weight = weightOf(sheet.frames[f], order);
                int i = f;
                while (i > 0 && weightOf(sheet.frames[queue[i - 1]], order) < weight) {
                    queue[i] = queue[i - 1];
                    i--;
                }
                queue[i] = f;
            }
        }

        /** By numbers all are alike: then the lowest number is first anyway. */
        private static int weightOf(Frame it, int order) {
            switch (order) {
                case 1: return it.needsPlaces();
                case 2: return Math.max(it.needsAcross(false), it.needsDown(false));
                default: return 0;
            }
        }
    }
}
