import java.util.ArrayList;
import java.util.Arrays;
import java.util.Comparator;
import java.util.List;
import java.util.regex.Matcher;
import java.util.regex.Pattern;

/**
 * The document once more, in its plainest form and by other means than the class: free rectangles
 * by trying all of them, texts by patterns, the state by doing all deeds again from the first one.
 */
final class Model {
    private static final int BAD = -1, FULL = -2, FINDING = -3, STATE = -4, SPENT = -6, NONE = -9;
    private static final Pattern TOKEN = Pattern.compile(" *([a-z]+|[0-9]+|;)");
    private static final List<String> WORDS = List.of("frame", "icon", "border", "logo");

    /** kind, w, h, left, above, right, below. */
    private record Picture(int kind, int w, int h, int left, int above, int right, int below) {
        boolean isIcon() {
            return kind == 1 || kind == 3;
        }

        int across() {
            return kind == 3 ? w : w - left - right;
        }

        int down() {
            return kind == 3 ? h : h - above - below;
        }
    }

    private record Book(int wide, int high, int bleed, List<Picture> pictures) {
        int edge(int f) {
            return pictures.get(f).kind == 2 ? bleed + 1 : bleed;
        }

        int across(int f) {
            return pictures.get(f).across() + 2 * edge(f);
        }

        int down(int f) {
            return pictures.get(f).down() + 2 * edge(f);
        }
    }

    private record Spot(int page, int x, int y, boolean turned) {
    }

    private record Rect(int x, int y, int w, int h) {
    }

    private record Choice(int first, int second, int index, int turned, Rect rect) {
    }

    /** What a deed does, by its letter: s, l, a, r, and t for a lot. */
    private record Deed(char what, long arg) {
    }

    private static final class State {
        final Spot[] spots;
        int rule = 0;

        State(int frames) {
            spots = new Spot[frames];
        }

        int pages() {
            int pages = 0;
            for (Spot s : spots) if (s != null) pages = Math.max(pages, s.page + 1);
            return pages;
        }

        int set() {
            int n = 0;
            for (Spot s : spots) if (s != null) n++;
            return n;
        }
    }

    private final int[][] rows = new int[6][];
    private final byte[][] texts = new byte[4][];
    private Book book = null;
    private List<Deed> deeds = new ArrayList<>();
    private final List<List<Deed>> kept = new ArrayList<>(Arrays.asList(null, null, null));
    private State state = new State(0);
    private int asked = 0;
    private int finding = 0;
    private final int[] findings = new int[6];

    private int find(int f) {
        finding = f;
        findings[f]++;
        return FINDING;
    }

    private int tell(int v) {
        asked = v;
        return 1;
    }

    int row(int r, int n) {
        if (r < 0 || r > 5 || n > 40) return BAD;
        if (n < 0) return find(5);
        rows[r] = new int[n];
        return n;
    }

    int lay(int r, int i, int v) {
        if (r < 0 || r > 5) return BAD;
        if (rows[r] == null) return find(1);
        if (i < 0 || i >= rows[r].length) return find(2);
        int was = rows[r][i];
        rows[r][i] = v;
        return tell(was);
    }

    int at(int r, int i) {
        if (r < 0 || r > 5) return BAD;
        if (rows[r] == null) return find(1);
        if (i < 0 || i >= rows[r].length) return find(2);
        return tell(rows[r][i]);
    }

    int tear(int r) {
        if (r < 0 || r > 5) return BAD;
        if (rows[r] == null) return find(1);
        rows[r] = null;
        return 1;
    }

    int copy(int r, int i, int to, int j, int n) {
        if (r < 0 || r > 5 || to < 0 || to > 5) return BAD;
        if (n < 0) return find(5);
        if (rows[r] == null || rows[to] == null) return find(1);
        if (i < 0 || j < 0 || (long) i + n > rows[r].length || (long) j + n > rows[to].length) return find(2);
        int[] taken = rows[r].clone();
        for (int k = 0; k < n; k++) rows[to][j + k] = taken[i + k];
        return 1;
    }

    int mean(int r) {
        if (r < 0 || r > 5) return BAD;
        if (rows[r] == null) return find(1);
        if (rows[r].length == 0) return find(4);
        long sum = 0;
        for (int v : rows[r]) sum += v;
        return tell((int) (sum / rows[r].length));
    }

    int text(int t, int n) {
        if (t < 0 || t > 3 || n > 120) return BAD;
        if (n < 0) return find(5);
        texts[t] = new byte[n];
        Arrays.fill(texts[t], (byte) 32);
        return n;
    }

    int put(int t, int i, int v) {
        if (t < 0 || t > 3) return BAD;
        if (texts[t] == null) return find(1);
        if (i < 0 || i >= texts[t].length) return find(2);
        int was = texts[t][i];
        texts[t][i] = (byte) v;
        return was + 1000;
    }

    // ---- texts

    private static final class Fault extends RuntimeException {
        private static final long serialVersionUID = 1L;
        final int where;

        Fault(int where) {
            super(null, null, false, false);
            this.where = where;
        }
    }

    private record Token(int where, String text) {
    }

    /** The last token is the end, "", or a byte that begins none, "?". */
    private static List<Token> tokens(String text) {
        List<Token> list = new ArrayList<>();
        Matcher m = TOKEN.matcher(text);
        int i = 0;
        while (m.find(i) && m.start() == i) {
            list.add(new Token(m.start(1), m.group(1)));
            i = m.end();
        }
        while (i < text.length() && text.charAt(i) == ' ') i++;
        list.add(new Token(i, i == text.length() ? "" : "?"));
        return list;
    }

    private static int number(Token t, int least, int most) {
        if (!t.text.matches("[0-9]+")) throw new Fault(t.where);
        java.math.BigInteger n = new java.math.BigInteger(t.text);
        if (n.bitLength() > 20 || n.intValue() < least || n.intValue() > most) throw new Fault(t.where);
        return n.intValue();
    }

    private static void need(boolean good, Token t) {
        if (!good) throw new Fault(t.where);
    }

    private static Book parse(byte[] bytes) {
        StringBuilder text = new StringBuilder();
        for (byte b : bytes) text.append((char) (b & 255));
        List<Token> list = tokens(text.toString());
        need(list.get(0).text.equals("page"), list.get(0));
        int wide = number(list.get(1), 4, 16);
        int high = number(list.get(2), 4, 16);
        need(list.get(3).text.equals(";"), list.get(3));
        int bleed = -1;
        List<Picture> pictures = new ArrayList<>();
        int i = 4;
        while (!list.get(i).text.isEmpty()) {
            Token word = list.get(i++);
            if (word.text.equals("bleed")) {
                need(bleed < 0, word);
                bleed = number(list.get(i++), 0, 2);
            } else {
                need(WORDS.contains(word.text) && pictures.size() < 8, word);
                int[] n = new int[6];
                for (int k = 0; k < 6; k++) {
                    Token t = list.get(i++);
                    n[k] = number(t, k < 2 ? 1 : 0, k < 2 ? 16 : 9);
                    if (k >= 4) need(n[k - 2] + n[k] < n[k - 4], t);
                }
                pictures.add(new Picture(WORDS.indexOf(word.text), n[0], n[1], n[2], n[3], n[4], n[5]));
            }
            need(list.get(i).text.equals(";"), list.get(i));
            i++;
        }
        need(!pictures.isEmpty(), list.get(i));
        return new Book(wide, high, Math.max(0, bleed), pictures);
    }

    int fault(int t) {
        if (t < 0 || t > 3) return BAD;
        if (texts[t] == null) return find(1);
        try {
            parse(texts[t]);
            return NONE;
        } catch (Fault f) {
            return f.where;
        }
    }

    int sheet(int t) {
        if (t < 0 || t > 3) return BAD;
        if (texts[t] == null) return find(1);
        try {
            book = parse(texts[t]);
        } catch (Fault f) {
            return STATE;
        }
        deeds = new ArrayList<>();
        for (int k = 0; k < 3; k++) kept.set(k, null);
        replay();
        return book.pictures.size();
    }

    int write(int t) {
        if (t < 0 || t > 3) return BAD;
        if (book == null) return STATE;
        StringBuilder s = new StringBuilder("page " + book.wide + " " + book.high + ";");
        if (book.bleed != 0) s.append("bleed " + book.bleed + ";");
        for (Picture p : book.pictures) {
            s.append(String.join(" ", WORDS.get(p.kind), "" + p.w, "" + p.h, "" + p.left, "" + p.above, "" + p.right, "" + p.below));
            s.append(";");
        }
        if (s.length() > 120) return SPENT;
        texts[t] = s.toString().getBytes(java.nio.charset.StandardCharsets.ISO_8859_1);
        return s.length();
    }

    private boolean noFrame(int f) {
        return book == null || f < 0 || f >= book.pictures.size();
    }

    private int frameTells(int f, int what) {
        Picture p = book.pictures.get(f);
        return new int[] {p.kind, p.across(), p.down(), book.across(f), book.down(f)}[what];
    }

    private int placeTells(int f, int what) {
        Spot s = state.spots[f];
        return new int[] {s.page, s.x, s.y, s.turned ? 1 : 0}[what];
    }

    int frame(int f, int what) {
        if (noFrame(f) || what < 0 || what > 4) return BAD;
        return tell(frameTells(f, what));
    }

    int place(int f, int what) {
        if (noFrame(f) || what < 0 || what > 3) return BAD;
        if (state.spots[f] == null) return NONE;
        return tell(placeTells(f, what));
    }

    int mark(int f, int kind) {
        if (noFrame(f) || kind < 1 || kind > 3) return BAD;
        Picture p = book.pictures.get(f);
        if (kind == 1 && p.isIcon()) return Math.abs(p.across() - p.down());
        if (kind == 2 && p.kind == 2) return book.across(f) * book.down(f) - p.across() * p.down();
        if (kind == 3 && p.kind == 3) {
            int empty = 0;
            for (int c = 0; c < p.w; c++) {
                for (int r = 0; r < p.h; r++) {
                    if (c < p.left || c >= p.w - p.right || r < p.above || r >= p.h - p.below) empty++;
                }
            }
            return empty;
        }
        return find(3);
    }

    // ---- rooms

    private int[][] grid(State s, int page) {
        int[][] grid = new int[book.high][book.wide];
        for (int[] line : grid) Arrays.fill(line, -1);
        for (int f = 0; f < s.spots.length; f++) {
            Spot spot = s.spots[f];
            if (spot == null || spot.page != page) continue;
            int across = spot.turned ? book.down(f) : book.across(f);
            int down = spot.turned ? book.across(f) : book.down(f);
            for (int y = spot.y; y < spot.y + down; y++) {
                for (int x = spot.x; x < spot.x + across; x++) {
                    if (grid[y][x] != -1) throw new IllegalStateException("frames overlap");
                    grid[y][x] = f;
                }
            }
        }
        return grid;
    }

    private boolean allFree(int[][] sums, int x, int y, int w, int h) {
        if (x < 0 || y < 0 || x + w > book.wide || y + h > book.high) return false;
        return sums[y + h][x + w] - sums[y][x + w] - sums[y + h][x] + sums[y][x] == 0;
    }

    private List<Rect> rects(State s, int page) {
        int[][] grid = grid(s, page);
        int[][] sums = new int[book.high + 1][book.wide + 1];
        for (int y = 0; y < book.high; y++) {
            for (int x = 0; x < book.wide; x++) {
                sums[y + 1][x + 1] = sums[y][x + 1] + sums[y + 1][x] - sums[y][x] + (grid[y][x] < 0 ? 0 : 1);
            }
        }
        List<Rect> list = new ArrayList<>();
        for (int y = 0; y < book.high; y++) {
            for (int x = 0; x < book.wide; x++) {
                for (int w = 1; x + w <= book.wide; w++) {
                    for (int h = 1; y + h <= book.high; h++) {
                        boolean greatest = allFree(sums, x, y, w, h)
                                && !allFree(sums, x - 1, y, w + 1, h) && !allFree(sums, x, y, w + 1, h)
                                && !allFree(sums, x, y - 1, w, h + 1) && !allFree(sums, x, y, w, h + 1);
                        if (greatest) list.add(new Rect(x, y, w, h));
                    }
                }
            }
        }
        return list;
    }

    private List<Choice> choices(State s, int page, int f) {
        List<Choice> list = new ArrayList<>();
        List<Rect> rects = rects(s, page);
        for (int i = 0; i < rects.size(); i++) {
            Rect r = rects.get(i);
            for (int turned = 0; turned < (book.pictures.get(f).isIcon() ? 1 : 2); turned++) {
                int w = turned == 1 ? book.down(f) : book.across(f);
                int h = turned == 1 ? book.across(f) : book.down(f);
                if (w > r.w || h > r.h) continue;
                int x = r.w - w;
                int y = r.h - h;
                int first = new int[] {Math.min(x, y), r.w * r.h - w * h, r.y + h, Math.max(x, y)}[s.rule];
                int second = new int[] {Math.max(x, y), Math.min(x, y), r.x, Math.min(x, y)}[s.rule];
                list.add(new Choice(first, second, i, turned, r));
            }
        }
        return list;
    }

    private static final Comparator<Choice> LEAST = Comparator.comparingInt(Choice::first)
            .thenComparingInt(Choice::second).thenComparingInt(Choice::index).thenComparingInt(Choice::turned);

    private Spot spot(State s, int f) {
        for (int page = 0; page <= s.pages() && page < 8; page++) {
            List<Choice> list = choices(s, page, f);
            if (list.isEmpty()) continue;
            list.sort(LEAST);
            Choice c = list.get(0);
            return new Spot(page, c.rect.x, c.rect.y, c.turned == 1);
        }
        return null;
    }

    private void all(State s, int order) {
        List<Integer> queue = new ArrayList<>();
        for (int f = 0; f < s.spots.length; f++) queue.add(f);
        Arrays.fill(s.spots, null);
        if (order == 1) queue.sort(Comparator.comparingInt(f -> -book.across(f) * book.down(f)));
        if (order == 2) queue.sort(Comparator.comparingInt(f -> -Math.max(book.across(f), book.down(f))));
        for (int f : queue) s.spots[f] = spot(s, f);
    }

    // ---- deeds

    private void apply(State s, Deed d) {
        int arg = (int) d.arg;
        if (d.what == 's') s.spots[arg] = spot(s, arg);
        if (d.what == 'l') s.spots[arg] = null;
        if (d.what == 'a') all(s, arg);
        if (d.what == 'r') s.rule = arg;
        if (d.what == 't') {
            int f = (int) (d.arg / 8 % s.spots.length);
            long m = d.arg % 8;
            if (m == 0) s.rule = (int) (d.arg / 64 % 4);
            else if (m >= 1 && m <= 4 && s.spots[f] == null) s.spots[f] = spot(s, f);
            else if (m > 4) s.spots[f] = null;
        }
    }

    private void replay() {
        state = new State(book.pictures.size());
        for (Deed d : deeds) apply(state, d);
    }

    private void doIt(char what, long arg) {
        Deed d = new Deed(what, arg);
        deeds.add(d);
        apply(state, d);
    }

    int set(int f) {
        if (noFrame(f)) return BAD;
        if (state.spots[f] != null) return STATE;
        if (spot(state, f) == null) return SPENT;
        if (deeds.size() == 40) return FULL;
        doIt('s', f);
        return state.spots[f].page;
    }

    int lift(int f) {
        if (noFrame(f)) return BAD;
        if (state.spots[f] == null) return STATE;
        if (deeds.size() == 40) return FULL;
        doIt('l', f);
        return state.pages();
    }

    int all(int order) {
        if (book == null || order < 0 || order > 2) return BAD;
        if (deeds.size() == 40) return FULL;
        doIt('a', order);
        return state.pages();
    }

    int rule(int k) {
        if (k < 0 || k > 3) return BAD;
        if (book == null || state.rule == k) return STATE;
        if (deeds.size() == 40) return FULL;
        int was = state.rule;
        doIt('r', k);
        return was;
    }

    int undo(int n) {
        if (n < 0 || n > deeds.size()) return BAD;
        int undone = deeds.size() - n;
        if (undone == 0) return 0;
        deeds = new ArrayList<>(deeds.subList(0, n));
        replay();
        return undone;
    }

    int keep(int k) {
        if (k < 0 || k > 2) return BAD;
        if (book == null) return STATE;
        kept.set(k, new ArrayList<>(deeds));
        return deeds.size();
    }

    int on(int k) {
        if (k < 0 || k > 2) return BAD;
        if (kept.get(k) == null) return find(1);
        deeds = new ArrayList<>(kept.get(k));
        replay();
        return deeds.size();
    }

    // ---- what is where

    private boolean noPage(int page) {
        return page < 0 || page >= state.pages();
    }

    int free(int page, int k, int what) {
        if (noPage(page) || k < 0 || what < 0 || what > 3) return BAD;
        List<Rect> list = rects(state, page);
        if (k >= list.size()) return NONE;
        Rect r = list.get(k);
        return tell(new int[] {r.x, r.y, r.w, r.h}[what]);
    }

    /** Where the points of a frame lie is tried for all of them; the nearest one is seen. */
    int seen(int page, int x, int y) {
        if (noPage(page) || x < 0 || x >= book.wide || y < 0 || y >= book.high) return BAD;
        int f = grid(state, page)[y][x];
        if (f < 0) return NONE;
        Picture p = book.pictures.get(f);
        int nearest = Integer.MAX_VALUE;
        for (int c = 0; c < p.w; c++) {
            for (int r = 0; r < p.h; r++) {
                int where = where(f, c, r);
                if (where == NONE) continue;
                int dx = where / 100 % 100 - x;
                int dy = where % 100 - y;
                if (dx * dx + dy * dy < nearest) {
                    nearest = dx * dx + dy * dy;
                    asked = 100 * c + r;
                }
            }
        }
        return f;
    }

    private int where(int f, int column, int row) {
        Picture p = book.pictures.get(f);
        Spot s = state.spots[f];
        int c = column;
        int r = row;
        if (p.kind != 3) {
            if (c < p.left || c >= p.w - p.right || r < p.above || r >= p.h - p.below) return NONE;
            c -= p.left;
            r -= p.above;
        }
        int x = s.x + book.edge(f) + (s.turned ? r : c);
        int y = s.y + book.edge(f) + (s.turned ? c : r);
        return 10000 * s.page + 100 * x + y;
    }

    int point(int f, int column, int row) {
        if (noFrame(f)) return BAD;
        Picture p = book.pictures.get(f);
        if (column < 0 || column >= p.w || row < 0 || row >= p.h) return BAD;
        if (state.spots[f] == null) return STATE;
        return where(f, column, row);
    }

    private int taken(State s, int page) {
        int n = 0;
        for (int[] line : grid(s, page)) for (int f : line) if (f >= 0) n++;
        return n;
    }

    int used(int page) {
        if (noPage(page)) return BAD;
        int n = taken(state, page);
        asked = 100 * n / (book.wide * book.high);
        return n;
    }

    int takes(int page) {
        if (noPage(page)) return BAD;
        int bits = 0;
        for (int f = 0; f < state.spots.length; f++) {
            if (state.spots[f] == null && !choices(state, page, f).isEmpty()) bits += 1 << f;
        }
        asked = 0;
        for (Rect r : rects(state, page)) asked = Math.max(asked, r.w * r.h);
        return bits;
    }

    // ---- what would be

    private State tried(int rule, int order) {
        State s = new State(book.pictures.size());
        s.rule = rule;
        all(s, order);
        return s;
    }

    int would(int rule, int order) {
        if (book == null || rule < 0 || rule > 3 || order < 0 || order > 2) return BAD;
        State s = tried(rule, order);
        asked = 0;
        for (int f = 0; f < s.spots.length; f++) if (s.spots[f] == null) asked += 1 << f;
        return s.pages();
    }

    int best() {
        if (book == null) return STATE;
        int[] least = null;
        for (int rule = 0; rule < 4; rule++) {
            for (int order = 0; order < 3; order++) {
                State s = tried(rule, order);
                int last = s.pages() == 0 ? 0 : taken(s, s.pages() - 1);
                int[] it = {-s.set(), s.pages(), last, 10 * rule + order};
                if (least == null || Arrays.compare(it, least) < 0) least = it;
            }
        }
        asked = least[1];
        return least[3];
    }

    int lots(int n, int seed) {
        if (n < 1 || n > 20 || seed < 1 || seed > 2147483646) return BAD;
        if (book == null) return STATE;
        if (deeds.size() + n > 40) return FULL;
        long lot = seed;
        for (int i = 0; i < n; i++) {
            lot = 48271 * lot % 2147483647;
            doIt('t', lot);
        }
        return state.set();
    }

    // ---- what is told

    int asked() {
        return asked;
    }

    int count(int what) {
        if (what < 0 || what > 13) return BAD;
        if (what == 11) return (int) Arrays.stream(rows).filter(r -> r != null).count();
        if (what == 12) return (int) Arrays.stream(texts).filter(t -> t != null).count();
        if (what == 13) return (int) kept.stream().filter(k -> k != null).count();
        if (book == null) return 0;
        int taken = 0;
        int free = 0;
        for (int page = 0; page < state.pages(); page++) {
            taken += taken(state, page);
            if (what == 8) free += rects(state, page).size();
        }
        int turned = (int) Arrays.stream(state.spots).filter(s -> s != null && s.turned).count();
        return new int[] {book.pictures.size(), state.set(), state.pages(), book.wide, book.high, book.bleed,
            state.rule, taken, free, turned, deeds.size()}[what];
    }

    int finding() {
        return finding;
    }

    int findings(int f) {
        return f < 1 || f > 5 ? BAD : findings[f];
    }

    long digest() {
        List<Integer> list = new ArrayList<>();
        for (int what = 0; what < 14; what++) list.add(count(what));
        for (int f = 0; f < state.spots.length; f++) {
            for (int what = 0; what < 5; what++) list.add(frameTells(f, what));
            if (state.spots[f] == null) list.add(-1);
            else for (int what = 0; what < 4; what++) list.add(placeTells(f, what));
        }
        for (List<Deed> k : kept) list.add(k == null ? -1 : k.size());
        for (int[] r : rows) {
            list.add(r == null ? -1 : r.length);
            if (r != null) for (int v : r) list.add(v);
        }
        for (byte[] t : texts) {
            list.add(t == null ? -1 : t.length);
            if (t != null) for (byte v : t) list.add((int) v);
        }
        long h = 17;
        for (int v : list) h = 31 * h + v;
        return h;
    }
}
