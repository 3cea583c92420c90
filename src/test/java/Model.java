import java.util.ArrayList;
import java.util.Arrays;
import java.util.List;

/**
 * The document once more, by other means: what stands where is worked out from logs of what was told, and what is best
 * by trying all. Slow, and with the Java library; only for tests.
 */
public final class Model {
    private static final int BAD = -1, FULL = -2, FINDING = -3, STATE = -4, NONE = -9;
    private static final int FAR = 1_000_000_000;

    private record Way(int minutes, int toll, int every, int first) {
    }

    private record Entry(int trailer, int sort, int minute, int who) {
    }

    private record Item(char letter, int yard, int value) {
    }

    private record Told(int day, int from, List<Item> items) {
    }

    private record Load(int weight, int place) {
    }

    private static final class Unit {
        int kind;
        int worth;
        int limit;
        int looks;
        int axle = 100;
        List<Load> loads = new ArrayList<>();
    }

    private static final class Truck {
        int yard;
        int there;
        int driven;
        int ever;
    }

    private final int[][] rows = new int[6][];
    private final byte[][] texts = new byte[4][];
    private final Way[][] ways = new Way[8][8];
    private final List<Unit> units = new ArrayList<>();
    private final Truck[] trucks = new Truck[6];
    private final List<Entry> log = new ArrayList<>();
    private final List<Told> told = new ArrayList<>();
    private int now;
    private int ma = 20000;
    private int mk = 20000;
    private int asked;
    private long pence;
    private long upper;
    private long lower = 1;
    private int finding;
    private final int[] findings = new int[6];
    private int[] partners = {NONE, NONE, NONE, NONE, NONE, NONE};
    private List<Integer> order = new ArrayList<>();
    private long bestSum;
    private int[] plan = {};

    public Model() {
        for (int k = 0; k < 6; k++) {
            trucks[k] = new Truck();
        }
    }

    private int finds(int f) {
        finding = f;
        findings[f]++;
        return FINDING;
    }

    private int tells(int v) {
        asked = v;
        return 1;
    }

    private static boolean in(int v, int a, int b) {
        return a <= v && v <= b;
    }

    private boolean unit(int t) {
        return in(t, 0, units.size() - 1);
    }

    // 1

    public int row(int r, int n) {
        if (!in(r, 0, 5) || n > 40) return BAD;
        if (n < 0) return finds(5);
        rows[r] = new int[n];
        return n;
    }

    public int lay(int r, int i, int v) {
        if (!in(r, 0, 5)) return BAD;
        if (rows[r] == null) return finds(1);
        if (!in(i, 0, rows[r].length - 1)) return finds(2);
        int was = rows[r][i];
        rows[r][i] = v;
        return tells(was);
    }

    public int tear(int r) {
        if (!in(r, 0, 5)) return BAD;
        if (rows[r] == null) return finds(1);
        rows[r] = null;
        return 1;
    }

    public int copy(int r, int i, int to, int j, int n) {
        if (!in(r, 0, 5) || !in(to, 0, 5)) return BAD;
        if (n < 0) return finds(5);
        if (rows[r] == null || rows[to] == null) return finds(1);
        if (i < 0 || j < 0 || (long) i + n > rows[r].length || (long) j + n > rows[to].length) return finds(2);
        int[] taken = rows[r].clone();
        for (int k = 0; k < n; k++) rows[to][j + k] = taken[i + k];
        return 1;
    }

    public int text(int t, int n) {
        if (!in(t, 0, 3) || n > 40) return BAD;
        if (n < 0) return finds(5);
        texts[t] = new byte[n];
        Arrays.fill(texts[t], (byte) 32);
        return n;
    }

    public int put(int t, int i, int v) {
        if (!in(t, 0, 3)) return BAD;
        if (texts[t] == null) return finds(1);
        if (!in(i, 0, texts[t].length - 1)) return finds(2);
        int was = texts[t][i];
        texts[t][i] = (byte) v;
        return was + 1000;
    }

    /** Adds the items of a text to a list; the fault, or NONE. */
    private static int parse(byte[] s, List<Item> items) {
        int i = 0;
        while (true) {
            while (i < s.length && s[i] == ' ') i++;
            if (i == s.length) return NONE;
            char letter = (char) s[i];
            if ("FDHR".indexOf(letter) < 0) return i;
            i++;
            int yard = 0;
            if (letter == 'F' || letter == 'D') {
                if (i == s.length || s[i] < '0' || s[i] > '7') return i;
                yard = s[i] - '0';
                i++;
            }
            int start = i;
            int value = 0;
            while (i < s.length && i < start + 4 && s[i] >= '0' && s[i] <= '9') {
                value = 10 * value + s[i] - '0';
                i++;
            }
            if (i == start) return i;
            items.add(new Item(letter, yard, value));
        }
    }

    public int fault(int t) {
        if (!in(t, 0, 3)) return BAD;
        if (texts[t] == null) return finds(1);
        return parse(texts[t], new ArrayList<>());
    }

    public int later(int n) {
        if (n < 0 || (long) now + n > 99999) return BAD;
        now += n;
        return now;
    }

    public int way(int a, int b, int minutes, int toll) {
        if (!in(a, 0, 7) || !in(b, 0, 7) || a == b || !in(minutes, 1, 600) || !in(toll, 0, 999)) return BAD;
        ways[a][b] = new Way(minutes, toll, 0, 0);
        ways[b][a] = ways[a][b];
        return 1;
    }

    public int ferry(int a, int b, int every, int first) {
        if (!in(a, 0, 7) || !in(b, 0, 7) || !in(every, 1, 1440) || !in(first, 0, every - 1)) return BAD;
        if (ways[a][b] == null) return finds(1);
        ways[a][b] = new Way(ways[a][b].minutes, ways[a][b].toll, every, first);
        ways[b][a] = ways[a][b];
        return 1;
    }

    /** The earliest minute by walking again and again over all ways, till none comes earlier; FAR: never. */
    private int arrive(int a, int at, int b) {
        int[] best = new int[8];
        Arrays.fill(best, FAR);
        best[a] = at;
        for (int round = 0; round < 8; round++) {
            for (int y = 0; y < 8; y++) {
                for (int z = 0; z < 8; z++) {
                    Way w = ways[y][z];
                    if (w == null || best[y] == FAR) continue;
                    int leaves = best[y];
                    if (w.every > 0) {
                        leaves = w.first;
                        while (leaves < best[y]) leaves += w.every;
                    }
                    best[z] = Math.min(best[z], leaves + w.minutes);
                }
            }
        }
        return best[b];
    }

    public int comes(int a, int at, int b) {
        if (!in(a, 0, 7) || !in(b, 0, 7) || !in(at, 0, 99999)) return BAD;
        int m = arrive(a, at, b);
        return m == FAR ? finds(1) : m;
    }

    public int toll(int a, int b) {
        if (!in(a, 0, 7) || !in(b, 0, 7)) return BAD;
        int least = cheapest(a, b, 1 << a);
        return least == FAR ? finds(1) : least;
    }

    private int cheapest(int a, int b, int seen) {
        if (a == b) return 0;
        int best = FAR;
        for (int z = 0; z < 8; z++) {
            if (ways[a][z] != null && (seen >> z & 1) == 0) {
                best = Math.min(best, ways[a][z].toll + cheapest(z, b, seen | 1 << z));
            }
        }
        return Math.min(best, FAR);
    }

    // 2

    /** The latest entry of a trailer of one of some sorts, among the first n entries; -1: none. */
    private int latest(int t, int n, String sorts) {
        for (int e = n - 1; e >= 0; e--) {
            if (log.get(e).trailer == t && sorts.indexOf('0' + log.get(e).sort) >= 0) return e;
        }
        return -1;
    }

    private Entry place(int t) {
        return log.get(latest(t, log.size(), "012"));
    }

    private boolean isLost(int t) {
        return place(t).sort == 2;
    }

    private int standsIn(int t) {
        return place(t).sort == 0 ? place(t).who : NONE;
    }

    private int hitchedTo(int t) {
        return place(t).sort == 1 ? place(t).who : NONE;
    }

    private boolean isSealed(int t) {
        int e = latest(t, log.size(), "345");
        return e >= 0 && log.get(e).sort != 5;
    }

    private int trailerOf(int k) {
        for (int t = 0; t < units.size(); t++) {
            if (hitchedTo(t) == k) return t;
        }
        return NONE;
    }

    private boolean driving(int k) {
        return now < trucks[k].there;
    }

    private boolean full() {
        return log.size() == 60;
    }

    public int trailer(int kind, int yard, int worth) {
        if (!in(kind, 0, 3) || !in(yard, 0, 7) || !in(worth, 0, 100000)) return BAD;
        if (units.size() == 12 || full()) return FULL;
        Unit u = new Unit();
        u.kind = kind;
        u.worth = worth;
        u.limit = kind == 3 ? -18 : 5;
        units.add(u);
        log.add(new Entry(units.size() - 1, 0, now, yard));
        return units.size() - 1;
    }

    private int says(int t, int what) {
        Unit u = units.get(t);
        int[] all = {u.kind, standsIn(t), hitchedTo(t), isLost(t) ? 1 : 0, u.worth, u.axle, u.loads.size(),
            isSealed(t) ? 1 : 0};
        return all[what];
    }

    public int told(int t, int what) {
        return !unit(t) || !in(what, 0, 7) ? BAD : tells(says(t, what));
    }

    private boolean isCold(int t) {
        return units.get(t).kind == 1 || units.get(t).kind == 3;
    }

    public int mark(int t, int kind) {
        if (!unit(t) || !in(kind, 1, 3)) return BAD;
        if (kind == 1) return isCold(t) ? units.get(t).limit : finds(3);
        if (units.get(t).kind != kind) return finds(3);
        if (kind == 3) return units.get(t).looks;
        for (Entry e : log) {
            if (e.trailer == t) return now / 1440 - e.minute / 1440;
        }
        return 0;
    }

    public int limit(int t, int degrees) {
        if (!unit(t) || !in(degrees, -50, 50)) return BAD;
        if (!isCold(t)) return finds(3);
        int was = units.get(t).limit;
        units.get(t).limit = degrees;
        return tells(was);
    }

    public int park(int tractor, int yard) {
        if (!in(tractor, 0, 5) || !in(yard, 0, 7)) return BAD;
        if (driving(tractor)) return STATE;
        trucks[tractor].yard = yard;
        trucks[tractor].there = now;
        trucks[tractor].driven = 0;
        return 1;
    }

    public int hitch(int tractor, int t) {
        if (!in(tractor, 0, 5) || !unit(t)) return BAD;
        if (driving(tractor) || trailerOf(tractor) != NONE || standsIn(t) != trucks[tractor].yard) return STATE;
        if (full()) return FULL;
        log.add(new Entry(t, 1, now, tractor));
        return 1;
    }

    public int drop(int tractor) {
        if (!in(tractor, 0, 5)) return BAD;
        int t = trailerOf(tractor);
        if (driving(tractor) || t == NONE) return STATE;
        if (full()) return FULL;
        log.add(new Entry(t, 0, now, trucks[tractor].yard));
        return t;
    }

    public int go(int tractor, int yard) {
        if (!in(tractor, 0, 5) || !in(yard, 0, 7) || trucks[tractor].yard == yard) return BAD;
        if (driving(tractor)) return STATE;
        Truck k = trucks[tractor];
        int m = arrive(k.yard, now, yard);
        if (m == FAR) return finds(1);
        int driven = now - k.there >= inForce('R', 0, now / 1440, now / 1440) ? 0 : k.driven;
        if (driven + m - now > inForce('H', 0, now / 1440, now / 1440) || m > 99999) return STATE;
        k.yard = yard;
        k.there = m;
        k.driven = driven + m - now;
        k.ever += m - now;
        return m;
    }

    private int truckSays(int k, int what) {
        Truck x = trucks[k];
        return new int[] {x.yard, x.there, trailerOf(k), x.driven, x.ever}[what];
    }

    public int tractor(int k, int what) {
        return !in(k, 0, 5) || !in(what, 0, 4) ? BAD : tells(truckSays(k, what));
    }

    public int lose(int t) {
        if (!unit(t)) return BAD;
        if (isLost(t)) return STATE;
        if (full()) return FULL;
        log.add(new Entry(t, 2, now, NONE));
        return 1;
    }

    public int find(int t, int yard) {
        if (!unit(t) || !in(yard, 0, 7)) return BAD;
        if (!isLost(t)) return STATE;
        if (full()) return FULL;
        log.add(new Entry(t, 0, now, yard));
        return 1;
    }

    public int seal(int t, int what) {
        if (!unit(t) || !in(what, 3, 5)) return BAD;
        if (isLost(t) || what == 3 && isSealed(t) || what != 3 && !isSealed(t)) return STATE;
        if (full()) return FULL;
        log.add(new Entry(t, what, now, NONE));
        return 1;
    }

    public int book(int t, int i, int what) {
        if (!unit(t) || !in(what, 0, 2)) return BAD;
        List<Entry> own = log.stream().filter(e -> e.trailer == t).toList();
        if (!in(i, 0, own.size() - 1)) return NONE;
        Entry e = own.get(i);
        return new int[] {e.sort, e.minute, e.who}[what];
    }

    public int where(int t, int minute) {
        if (!unit(t) || !in(minute, 0, now)) return BAD;
        int n = (int) log.stream().filter(e -> e.minute <= minute).count();
        int e = latest(t, n, "012");
        if (e < 0) return NONE;
        return log.get(e).sort == 0 ? log.get(e).who : log.get(e).sort == 1 ? 10 + log.get(e).who : 20;
    }

    // 3

    public int terms(int t, int from) {
        if (!in(t, 0, 3) || !in(from, 0, 69)) return BAD;
        if (told.size() == 20) return FULL;
        if (texts[t] == null) return finds(1);
        List<Item> items = new ArrayList<>();
        if (parse(texts[t], items) != NONE) return STATE;
        told.add(new Told(now / 1440, from, items));
        return told.size() - 1;
    }

    private int inForce(char letter, int yard, int day, int known) {
        int value = letter == 'F' ? 120 : letter == 'D' ? 0 : letter == 'H' ? 600 : 480;
        for (int from = 0; from <= day; from++) {
            for (Told t : told) {
                if (t.from != from || t.day > known) continue;
                for (Item i : t.items) {
                    if (i.letter == letter && i.yard == yard) value = i.value;
                }
            }
        }
        return value;
    }

    public int force(int what, int yard, int day, int known) {
        if (!in(what, 0, 3) || what < 2 && !in(yard, 0, 7) || !in(day, 0, 69) || !in(known, 0, 69)) return BAD;
        return inForce("FDHR".charAt(what), what < 2 ? yard : 0, day, known);
    }

    public int detention(int t) {
        if (!unit(t)) return BAD;
        int times = 0;
        long sum = 0;
        Entry open = null;
        List<Entry> own = new ArrayList<>(log.stream().filter(e -> e.trailer == t && e.sort < 3).toList());
        own.add(new Entry(t, 2, now, NONE));
        for (Entry e : own) {
            if (open != null) {
                int day = open.minute / 1440;
                int minutes = e.minute - open.minute - inForce('F', open.who, day, day);
                if (minutes > 0) {
                    times++;
                    sum += (long) Math.ceil(minutes / 60.0) * inForce('D', open.who, day, day);
                }
            }
            open = e.sort == 0 ? e : null;
        }
        pence = sum;
        return times;
    }

    public long pence() {
        return pence;
    }

    // 4

    public int law(int axle, int kingpin) {
        if (!in(axle, 0, 100000) || !in(kingpin, 0, 100000)) return BAD;
        ma = axle;
        mk = kingpin;
        return 1;
    }

    public int load(int t, int w, int p) {
        if (!unit(t) || !in(w, 1, 20000) || !in(p, 0, 130)) return BAD;
        if (units.get(t).loads.size() == 6) return FULL;
        units.get(t).loads.add(new Load(w, p));
        return units.get(t).loads.size();
    }

    public int unload(int t) {
        if (!unit(t)) return BAD;
        int had = units.get(t).loads.size();
        units.get(t).loads.clear();
        return had;
    }

    public int slide(int t, int a) {
        if (!unit(t) || !in(a, 60, 120)) return BAD;
        int was = units.get(t).axle;
        units.get(t).axle = a;
        return was;
    }

    /** What lies on the axle or the kingpin, times a. */
    private long lies(int t, boolean kingpin, int a) {
        long sum = 0;
        for (Load l : units.get(t).loads) sum += (long) l.weight * (kingpin ? a - l.place : l.place);
        return sum;
    }

    public int weight(int t, boolean kingpin) {
        if (!unit(t)) return BAD;
        long above = lies(t, kingpin, units.get(t).axle);
        long below = units.get(t).axle;
        for (int d = 120; d > 1; d--) {
            while (above % d == 0 && below % d == 0) {
                above /= d;
                below /= d;
            }
        }
        upper = above;
        lower = below;
        return 1;
    }

    private boolean lawfulAt(int t, int a) {
        long axle = lies(t, false, a);
        long kingpin = lies(t, true, a);
        return axle <= (long) ma * a && kingpin <= (long) mk * a && kingpin >= 0;
    }

    public int lawful(int t) {
        return !unit(t) ? BAD : lawfulAt(t, units.get(t).axle) ? 1 : 0;
    }

    public int shift(int t) {
        if (!unit(t)) return BAD;
        int best = NONE;
        for (int a = 60; a <= 120; a++) {
            int at = units.get(t).axle;
            if (lawfulAt(t, a) && (best == NONE || Math.abs(a - at) < Math.abs(best - at))) best = a;
        }
        return best;
    }

    public int cold(int t, int r, int what) {
        if (!unit(t) || !in(r, 0, 5) || !in(what, 0, 2)) return BAD;
        if (!isCold(t)) return finds(3);
        if (rows[r] == null) return finds(1);
        units.get(t).looks++;
        int many = 0;
        int longest = 0;
        StringBuilder signs = new StringBuilder();
        for (int v : rows[r]) {
            boolean gap = v == -999;
            boolean above = !gap && v > units.get(t).limit;
            signs.append(gap || above ? 'x' : ' ');
            if (above || gap && what == 1) many++;
        }
        for (String run : signs.toString().split(" ")) longest = Math.max(longest, run.length());
        return 10 * (what == 2 ? longest : many);
    }

    public int mean(int r) {
        if (!in(r, 0, 5)) return BAD;
        if (rows[r] == null) return finds(1);
        int[] v = Arrays.stream(rows[r]).filter(i -> i != -999).toArray();
        if (v.length == 0) return finds(4);
        return tells((int) (Arrays.stream(v).asLongStream().sum() / v.length));
    }

    public int theft(int t) {
        if (!unit(t)) return BAD;
        int broken = latest(t, log.size(), "5");
        if (broken < 0) return STATE;
        int from = log.get(latest(t, broken, "34")).minute;
        asked = from;
        return log.get(broken).minute - from;
    }

    public int hands(int t) {
        if (!unit(t)) return BAD;
        int broken = latest(t, log.size(), "5");
        if (broken < 0) return STATE;
        int seen = latest(t, broken, "34");
        int bits = 0;
        for (int e = latest(t, seen, "01"); e < broken; e++) {
            Entry x = log.get(e);
            if (x.trailer == t && x.sort < 2) bits |= 1 << x.who + 8 * x.sort;
        }
        asked = bits;
        return Integer.bitCount(bits);
    }

    // 5

    private boolean ready(int k) {
        return !driving(k) && trailerOf(k) != NONE;
    }

    /** END, sum of both and m of THE SWAP; null: there is none. */
    private int[] bestSwap(int a, int b, int homeA, int homeB) {
        List<int[]> all = new ArrayList<>();
        for (int m = 0; m < 8; m++) {
            int both = Math.max(arrive(trucks[a].yard, now, m), arrive(trucks[b].yard, now, m));
            if (both == FAR) continue;
            int x = arrive(m, both + 10, homeA);
            int y = arrive(m, both + 10, homeB);
            if (x != FAR && y != FAR) all.add(new int[] {Math.max(x, y), x + y, m});
        }
        all.sort(Arrays::compare);
        return all.isEmpty() ? null : all.get(0);
    }

    public int swap(int a, int b, int homeA, int homeB) {
        if (!in(a, 0, 5) || !in(b, 0, 5) || a == b || !in(homeA, 0, 7) || !in(homeB, 0, 7)) return BAD;
        if (!ready(a) || !ready(b)) return STATE;
        int[] best = bestSwap(a, b, homeA, homeB);
        if (best == null) return finds(1);
        asked = best[0];
        return best[2];
    }

    public int pairs(int set, int r) {
        if (!in(r, 0, 5) || !in(set, 0, 63) || !List.of(2, 4, 6).contains(Integer.bitCount(set))) return BAD;
        if (rows[r] == null) return finds(1);
        if (rows[r].length != 6) return finds(5);
        for (int h : rows[r]) if (!in(h, 0, 7)) return finds(3);
        for (int k = 0; k < 6; k++) if ((set >> k & 1) == 1 && !ready(k)) return STATE;
        List<int[]> all = new ArrayList<>();
        partings(set, new int[] {NONE, NONE, NONE, NONE, NONE, NONE}, all);
        int[] best = null;
        int least = FAR;
        for (int[] p : all) {
            int worst = 0;
            for (int k = 0; k < 6; k++) {
                if (p[k] > k) {
                    int[] s = bestSwap(k, p[k], rows[r][k], rows[r][p[k]]);
                    worst = Math.max(worst, s == null ? FAR : s[0]);
                }
            }
            if (worst < least || worst == least && worst < FAR && Arrays.compare(p, best) < 0) {
                least = worst;
                best = p;
            }
        }
        if (best == null) return finds(1);
        partners = best;
        return least;
    }

    private static void partings(int left, int[] sofar, List<int[]> all) {
        if (left == 0) {
            all.add(sofar);
            return;
        }
        int a = Integer.numberOfTrailingZeros(left);
        for (int b = 5; b > a; b--) {
            if ((left >> b & 1) == 1) {
                int[] next = sofar.clone();
                next[a] = b;
                next[b] = a;
                partings(left & ~(1 << a | 1 << b), next, all);
            }
        }
    }

    public int partner(int tractor) {
        return in(tractor, 0, 5) ? partners[tractor] : BAD;
    }

    public int late(int a, int b, int homeB, int m, int minutes, int dawn) {
        if (!in(a, 0, 5) || !in(b, 0, 5) || a == b || !in(homeB, 0, 7) || !in(m, 0, 7)) return BAD;
        if (!in(minutes, 0, 2000) || !in(dawn, 0, 99999)) return BAD;
        if (!ready(a) || !ready(b)) return STATE;
        int x = arrive(trucks[a].yard, now, m);
        int y = arrive(trucks[b].yard, now, m);
        if (x == FAR || y == FAR || arrive(m, 0, homeB) == FAR) return finds(1);
        int end = arrive(m, Math.max(x + minutes, y) + 10, homeB);
        long worthA = units.get(trailerOf(a)).worth;
        long worthB = units.get(trailerOf(b)).worth;
        long waits = end > dawn ? (end - dawn) * worthB / 1000 : 0;
        long goes = (worthA + worthB) / 10;
        asked = (int) (goes < waits ? goes : waits);
        return goes < waits ? 0 : 1;
    }

    // 6

    public int canBe(int t) {
        if (!unit(t)) return BAD;
        if (!isLost(t)) return STATE;
        int at = log.get(latest(t, log.size(), "01")).minute;
        int from = log.get(latest(t, log.size(), "0")).who;
        int bits = 0;
        for (int y = 0; y < 8; y++) if (arrive(from, at, y) <= now) bits |= 1 << y;
        return bits;
    }

    public int look(int t, int yard, int r) {
        if (!unit(t) || !in(yard, 0, 7) || !in(r, 0, 5)) return BAD;
        if (!isLost(t)) return STATE;
        if (rows[r] == null) return finds(1);
        if (rows[r].length != 8) return finds(5);
        for (int w : rows[r]) if (!in(w, 0, 100)) return finds(3);
        List<Integer> left = new ArrayList<>();
        for (int y = 0; y < 8; y++) if ((canBe(t) >> y & 1) == 1 && rows[r][y] > 0) left.add(y);
        if (left.size() > 6) return FULL;
        for (int y : left) if (arrive(yard, now, y) == FAR) return finds(1);
        int many = left.size();
        bestSum = Long.MAX_VALUE;
        tryOrders(left, new ArrayList<>(), yard, now, 0, rows[r]);
        asked = (int) bestSum;
        return many;
    }

    private void tryOrders(List<Integer> left, List<Integer> sofar, int at, int minute, long sum, int[] weights) {
        if (left.isEmpty()) {
            if (sum < bestSum) {
                bestSum = sum;
                order = new ArrayList<>(sofar);
            }
            return;
        }
        for (int i = 0; i < left.size(); i++) {
            int y = left.remove(i);
            sofar.add(y);
            int m = arrive(at, minute, y);
            tryOrders(left, sofar, y, m, sum + (long) weights[y] * (m - now), weights);
            sofar.remove(sofar.size() - 1);
            left.add(i, y);
        }
    }

    public int looked(int i) {
        return in(i, 0, order.size() - 1) ? order.get(i) : NONE;
    }

    public int pool(int have, int need) {
        if (!in(have, 0, 5) || !in(need, 0, 5)) return BAD;
        int[] h = rows[have];
        int[] n = rows[need];
        if (h == null || n == null) return finds(1);
        if (h.length != 8 || n.length != 8) return finds(5);
        for (int y = 0; y < 8; y++) if (!in(h[y], 0, 30) || !in(n[y], 0, 30)) return finds(3);
        // One line for each trailer that is lacked, one column for each that is spare: an assignment.
        List<Integer> lacks = new ArrayList<>();
        List<Integer> spare = new ArrayList<>();
        for (int y = 0; y < 8; y++) {
            for (int i = 0; i < n[y] - h[y]; i++) lacks.add(y);
            for (int i = 0; i < h[y] - n[y]; i++) spare.add(y);
        }
        long[] got = assign(lacks, spare);
        asked = (int) got[1];
        return (int) got[0];
    }

    /** The Hungarian way over a square of costs, where what can't be has a cost above all that can. */
    private long[] assign(List<Integer> lacks, List<Integer> spare) {
        int size = Math.max(lacks.size(), spare.size());
        long never = 100_000_000L;
        int[][] arrivals = new int[8][8];
        for (int a = 0; a < 8; a++) for (int b = 0; b < 8; b++) arrivals[a][b] = arrive(a, now, b);
        long[][] cost = new long[size + 1][size + 1];
        for (int i = 1; i <= size; i++) {
            for (int j = 1; j <= size; j++) {
                cost[i][j] = never;
                if (i <= lacks.size() && j <= spare.size()) {
                    int m = arrivals[spare.get(j - 1)][lacks.get(i - 1)];
                    if (m != FAR) cost[i][j] = m - now;
                }
            }
        }
        long[] u = new long[size + 1];
        long[] v = new long[size + 1];
        int[] line = new int[size + 1];
        for (int i = 1; i <= size; i++) {
            int[] way = new int[size + 1];
            long[] least = new long[size + 1];
            boolean[] used = new boolean[size + 1];
            Arrays.fill(least, Long.MAX_VALUE / 4);
            int j0 = 0;
            line[0] = i;
            do {
                used[j0] = true;
                int j1 = 0;
                long delta = Long.MAX_VALUE / 4;
                for (int j = 1; j <= size; j++) {
                    if (used[j]) continue;
                    long c = cost[line[j0]][j] - u[line[j0]] - v[j];
                    if (c < least[j]) {
                        least[j] = c;
                        way[j] = j0;
                    }
                    if (least[j] < delta) {
                        delta = least[j];
                        j1 = j;
                    }
                }
                for (int j = 0; j <= size; j++) {
                    if (used[j]) {
                        u[line[j]] += delta;
                        v[j] -= delta;
                    } else {
                        least[j] -= delta;
                    }
                }
                j0 = j1;
            } while (line[j0] != 0);
            do {
                line[j0] = line[way[j0]];
                j0 = way[j0];
            } while (j0 != 0);
        }
        long lack = 0;
        long sum = 0;
        for (int j = 1; j <= size; j++) {
            if (line[j] <= lacks.size()) {
                if (cost[line[j]][j] == never) lack++;
                else sum += cost[line[j]][j];
            }
        }
        return new long[] {lack, sum};
    }

    public int rent(int r, int own, int p, int f, int l) {
        if (!in(r, 0, 5) || !in(own, 0, 9) || !in(p, 0, 1000) || !in(f, 0, 1000) || !in(l, 0, 1000)) return BAD;
        if (rows[r] == null) return finds(1);
        if (rows[r].length == 0) return finds(5);
        for (int n : rows[r]) if (!in(n, 0, 9)) return finds(3);
        // For each number of the latest day the best plan till then: cost first, then the plan itself by days.
        long[] cost = new long[10];
        int[][] plans = new int[10][];
        Arrays.fill(cost, FAR);
        cost[0] = 0;
        plans[0] = new int[0];
        for (int need : rows[r]) {
            long[] nextCost = new long[10];
            int[][] nextPlans = new int[10][];
            Arrays.fill(nextCost, FAR);
            for (int x = 0; x < 10; x++) {
                for (int before = 0; before < 10; before++) {
                    if (cost[before] == FAR) continue;
                    long c = cost[before] + (long) p * x + (long) f * Math.max(0, x - before)
                        + (long) l * Math.max(0, need - own - x);
                    int[] longer = Arrays.copyOf(plans[before], plans[before].length + 1);
                    longer[longer.length - 1] = x;
                    if (c < nextCost[x] || c == nextCost[x] && Arrays.compare(longer, nextPlans[x]) < 0) {
                        nextCost[x] = c;
                        nextPlans[x] = longer;
                    }
                }
            }
            cost = nextCost;
            plans = nextPlans;
        }
        int best = 0;
        for (int x = 1; x < 10; x++) {
            if (cost[x] < cost[best] || cost[x] == cost[best] && Arrays.compare(plans[x], plans[best]) < 0) best = x;
        }
        plan = plans[best];
        return (int) cost[best];
    }

    public int rented(int day) {
        return in(day, 0, plan.length - 1) ? plan[day] : NONE;
    }

    // 7

    public int asked() {
        return asked;
    }

    public long upper() {
        return upper;
    }

    public long lower() {
        return lower;
    }

    public int count(int what) {
        if (!in(what, 0, 7)) return BAD;
        int lost = 0;
        for (int t = 0; t < units.size(); t++) lost += isLost(t) ? 1 : 0;
        int joined = 0;
        for (Way[] line : ways) for (Way w : line) joined += w == null ? 0 : 1;
        int there = 0;
        for (int[] r : rows) there += r == null ? 0 : 1;
        int written = 0;
        for (byte[] t : texts) written += t == null ? 0 : 1;
        return new int[] {now, units.size(), lost, joined / 2, told.size(), log.size(), there, written}[what];
    }

    public int finding() {
        return finding;
    }

    public int findings(int f) {
        return in(f, 1, 5) ? findings[f] : BAD;
    }

    public long digest() {
        List<Long> all = new ArrayList<>();
        for (int what = 0; what < 8; what++) all.add((long) count(what));
        for (int a = 0; a < 8; a++) {
            for (int b = a + 1; b < 8; b++) {
                Way w = ways[a][b] == null ? new Way(0, 0, 0, 0) : ways[a][b];
                all.addAll(List.of((long) w.minutes, (long) w.toll, (long) w.every, (long) w.first));
            }
        }
        for (int t = 0; t < units.size(); t++) for (int what = 0; what < 8; what++) all.add((long) says(t, what));
        for (int k = 0; k < 6; k++) for (int what = 0; what < 5; what++) all.add((long) truckSays(k, what));
        for (Entry e : log) all.addAll(List.of((long) e.trailer, (long) e.sort, (long) e.minute, (long) e.who));
        for (Told t : told) all.addAll(List.of((long) t.day, (long) t.from));
        all.add((long) ma);
        all.add((long) mk);
        for (int[] r : rows) {
            all.add(r == null ? -1L : r.length);
            if (r != null) for (int v : r) all.add((long) v);
        }
        for (byte[] t : texts) {
            all.add(t == null ? -1L : t.length);
            if (t != null) for (byte v : t) all.add((long) v);
        }
        long h = 17;
        for (long v : all) h = 31 * h + v;
        return h;
    }
}
