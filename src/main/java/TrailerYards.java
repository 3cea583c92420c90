import java.util.Arrays;

/**
 * A carrier that swaps loaded trailers in yards by night. The document's promises say what each call answers; every
 * call that is refused leaves all but finding() and findings() as it was.
 */
public final class TrailerYards {
    public static final int BAD = -1, FULL = -2, FINDING = -3, STATE = -4, NONE = -9;

    private static final int NOTHING = 1, BEYOND = 2, UNLIKE = 3, NOUGHT = 4, SIZE = 5;
    private static final int KIND_COLD = 1, KIND_RENTED = 2, KIND_FROZEN = 3;
    private static final int STANDS = 0, HITCHED = 1, LOST = 2, SEALED = 3, WHOLE = 4, BROKEN = 5;

    private static final int YARDS = 8, TRACTORS = 6, TRAILERS = 12, ROWS = 6, TEXTS = 4, PLACES = 40;
    private static final int LAST_MINUTE = 99999, DAY_MINUTES = 1440, LAST_DAY = 69;
    private static final int BLANK = 32, GAP = -999, MISSING = -1;
    private static final int LEAST_AXLE = 60, MOST_AXLE = 120, LOADS = 6;
    private static final int MOST_LOOKED = 6, MOST_WEIGHT = 100, MOST_NEED = 30, MOST_RENTED = 9;
    private static final int CHANGE_MINUTES = 10;
    private static final int NEVER = 0x7fffffff;

    /* What items of TERMS are about: F of each yard, D of each yard, H, R. */
    private static final int FREE = 0, OWED = YARDS, HOURS = 2 * YARDS, REST = HOURS + 1, THINGS = REST + 1;

    private final Line[] rows = new Line[ROWS];
    private final Line[] texts = new Line[TEXTS];
    private final Tractor[] tractors = new Tractor[TRACTORS];
    private final Trailer[] trailers = new Trailer[TRAILERS];
    private final Ways ways = new Ways();
    private final Book entries = new Book();
    private final Terms agreed = new Terms();
    private final Swaps swaps = new Swaps();
    private final Search search = new Search();
    private final Pool pools = new Pool();
    private final Rents rents = new Rents();
    private final Answers answers = new Answers();
    private int trailerCount;
    private int now;
    private int axleMost = 20000;
    private int kingpinMost = 20000;

    public TrailerYards() {
        for (int r = 0; r < ROWS; r++) {
            rows[r] = new Line();
        }
        for (int t = 0; t < TEXTS; t++) {
            texts[t] = new Line();
        }
        for (int k = 0; k < TRACTORS; k++) {
            tractors[k] = new Tractor();
        }
    }

    // ---- 1 rows, texts, yards

    public int row(int r, int n) {
        return makeLine(lineAt(rows, r), n, 0);
    }

    public int lay(int r, int i, int v) {
        Line row = lineAt(rows, r);
        if (row == null) {
            return BAD;
        }
        if (row.isMissing()) {
            return refuse(NOTHING);
        }
        if (!row.has(i)) {
            return refuse(BEYOND);
        }
        int was = row.places[i];
        row.places[i] = v;
        return tells(was);
    }

    public int tear(int r) {
        Line row = lineAt(rows, r);
        if (row == null) {
            return BAD;
        }
        if (row.isMissing()) {
            return refuse(NOTHING);
        }
        row.size = MISSING;
        return 1;
    }

    public int copy(int r, int i, int to, int j, int n) {
        Line source = lineAt(rows, r);
        Line target = lineAt(rows, to);
        if (source == null || target == null) {
            return BAD;
        }
        if (n < 0) {
            return refuse(SIZE);
        }
        if (source.isMissing() || target.isMissing()) {
            return refuse(NOTHING);
        }
        if (!source.hasSpan(i, n) || !target.hasSpan(j, n)) {
            return refuse(BEYOND);
        }
        System.arraycopy(source.places, i, target.places, j, n);
        return 1;
    }

    public int text(int t, int n) {
        return makeLine(lineAt(texts, t), n, BLANK);
    }

    public int put(int t, int i, int v) {
        Line text = lineAt(texts, t);
        if (text == null) {
            return BAD;
        }
        if (text.isMissing()) {
            return refuse(NOTHING);
        }
        if (!text.has(i)) {
            return refuse(BEYOND);
        }
        int was = text.places[i];
        text.places[i] = (byte) v;
        return 1000 + was;
    }

    public int fault(int t) {
        Line text = lineAt(texts, t);
        if (text == null) {
            return BAD;
        }
        if (text.isMissing()) {
            return refuse(NOTHING);
        }
        return agreed.read(text);
    }

    public int later(int n) {
        if (n < 0 || n > LAST_MINUTE - now) {
            return BAD;
        }
        now += n;
        return now;
    }

    public int way(int a, int b, int minutes, int toll) {
        if (!isYard(a) || !isYard(b) || a == b || !isWithin(minutes, 1, 600) || !isWithin(toll, 0, 999)) {
            return BAD;
        }
        ways.join(a, b, minutes, toll);
        return 1;
    }

    public int ferry(int a, int b, int every, int first) {
        if (!isYard(a) || !isYard(b) || !isWithin(every, 1, 1440) || !isWithin(first, 0, every - 1)) {
            return BAD;
        }
        if (!ways.joins(a, b)) {
            return refuse(NOTHING);
        }
        ways.makeFerry(a, b, every, first);
        return 1;
    }

    public int comes(int a, int at, int b) {
        if (!isYard(a) || !isYard(b) || !isWithin(at, 0, LAST_MINUTE)) {
            return BAD;
        }
        return orNothing(ways.arrival(a, at, b));
    }

    public int toll(int a, int b) {
        if (!isYard(a) || !isYard(b)) {
            return BAD;
        }
        return orNothing(ways.leastToll(a, b));
    }

    // ---- 2 trailers, tractors

    public int trailer(int kind, int yard, int worth) {
        if (!isWithin(kind, 0, KIND_FROZEN) || !isYard(yard) || !isWithin(worth, 0, 100000)) {
            return BAD;
        }
        if (trailerCount >= TRAILERS || entries.isFull()) {
            return FULL;
        }
        int t = trailerCount;
        trailers[t] = new Trailer(kind, yard, worth, now);
        trailerCount++;
        entries.enter(t, STANDS, now, yard);
        return t;
    }

    public int told(int t, int what) {
        Trailer x = trailerAt(t);
        if (x == null || !isWithin(what, 0, 7)) {
            return BAD;
        }
        return tells(x.says(what));
    }

    public int mark(int t, int kind) {
        Trailer x = trailerAt(t);
        if (x == null || !isWithin(kind, KIND_COLD, KIND_FROZEN)) {
            return BAD;
        }
        if (!x.isOf(kind)) {
            return refuse(UNLIKE);
        }
        if (kind == KIND_COLD) {
            return x.degrees;
        }
        if (kind == KIND_RENTED) {
            return dayOf(now) - dayOf(x.firstMinute);
        }
        return x.looks;
    }

    public int limit(int t, int degrees) {
        Trailer x = trailerAt(t);
        if (x == null || !isWithin(degrees, -50, 50)) {
            return BAD;
        }
        if (!x.isOf(KIND_COLD)) {
            return refuse(UNLIKE);
        }
        int was = x.degrees;
        x.degrees = degrees;
        return tells(was);
    }

    public int park(int tractor, int yard) {
        Tractor k = tractorAt(tractor);
        if (k == null || !isYard(yard)) {
            return BAD;
        }
        if (k.isOnTheWay(now)) {
            return STATE;
        }
        k.yard = yard;
        k.there = now;
        k.driven = 0;
        return 1;
    }

    public int hitch(int tractor, int t) {
        Tractor k = tractorAt(tractor);
        Trailer x = trailerAt(t);
        if (k == null || x == null) {
            return BAD;
        }
        if (k.isOnTheWay(now) || k.trailer != NONE || x.yard != k.yard) {
            return STATE;
        }
        if (entries.isFull()) {
            return FULL;
        }
        k.trailer = t;
        x.yard = NONE;
        x.tractor = tractor;
        entries.enter(t, HITCHED, now, tractor);
        return 1;
    }

    public int drop(int tractor) {
        Tractor k = tractorAt(tractor);
        if (k == null) {
            return BAD;
        }
        int t = k.trailer;
        Trailer x = trailerAt(t);
        if (k.isOnTheWay(now) || x == null) {
            return STATE;
        }
        if (entries.isFull()) {
            return FULL;
        }
        k.trailer = NONE;
        x.tractor = NONE;
        x.yard = k.yard;
        entries.enter(t, STANDS, now, k.yard);
        return t;
    }

    public int go(int tractor, int yard) {
        Tractor k = tractorAt(tractor);
        if (k == null || !isYard(yard) || k.yard == yard) {
            return BAD;
        }
        if (k.isOnTheWay(now)) {
            return STATE;
        }
        int there = ways.arrival(k.yard, now, yard);
        if (there == NEVER) {
            return refuse(NOTHING);
        }
        int day = dayOf(now);
        boolean rested = now - k.there >= agreed.inForce(REST, day, day);
        int driven = there - now + (rested ? 0 : k.driven);
        if (driven > agreed.inForce(HOURS, day, day) || there > LAST_MINUTE) {
            return STATE;
        }
        k.yard = yard;
        k.there = there;
        k.driven = driven;
        k.everDriven += there - now;
        return there;
    }

    public int tractor(int k, int what) {
        Tractor x = tractorAt(k);
        if (x == null || !isWithin(what, 0, 4)) {
            return BAD;
        }
        return tells(x.says(what));
    }

    public int lose(int t) {
        Trailer x = trailerAt(t);
        if (x == null) {
            return BAD;
        }
        if (x.lost) {
            return STATE;
        }
        if (entries.isFull()) {
            return FULL;
        }
        Tractor k = tractorAt(x.tractor);
        if (k != null) {
            k.trailer = NONE;
        }
        x.tractor = NONE;
        x.yard = NONE;
        x.lost = true;
        entries.enter(t, LOST, now, NONE);
        return 1;
    }

    public int find(int t, int yard) {
        Trailer x = trailerAt(t);
        if (x == null || !isYard(yard)) {
            return BAD;
        }
        if (!x.lost) {
            return STATE;
        }
        if (entries.isFull()) {
            return FULL;
        }
        x.lost = false;
        x.yard = yard;
        entries.enter(t, STANDS, now, yard);
        return 1;
    }

    public int seal(int t, int what) {
        Trailer x = trailerAt(t);
        if (x == null || !isWithin(what, SEALED, BROKEN)) {
            return BAD;
        }
        // Only one that is not sealed can be sealed, only a sealed one's seal can be looked at.
        if (x.lost || x.sealed == (what == SEALED)) {
            return STATE;
        }
        if (entries.isFull()) {
            return FULL;
        }
        x.sealed = what != BROKEN;
        entries.enter(t, what, now, NONE);
        return 1;
    }

    public int book(int t, int i, int what) {
        if (trailerAt(t) == null || !isWithin(what, 0, 2)) {
            return BAD;
        }
        int e = entries.entryOf(t, i);
        return e == NONE ? NONE : entries.says(e, what);
    }

    public int where(int t, int minute) {
        if (trailerAt(t) == null || !isWithin(minute, 0, now)) {
            return BAD;
        }
        return entries.placeAt(t, minute);
    }

    // ---- 3 terms

    public int terms(int t, int from) {
        Line text = lineAt(texts, t);
        if (text == null || !isWithin(from, 0, LAST_DAY)) {
            return BAD;
        }
        if (agreed.isFull()) {
            return FULL;
        }
        if (text.isMissing()) {
            return refuse(NOTHING);
        }
        if (agreed.read(text) != NONE) {
            return STATE;
        }
        return agreed.keep(dayOf(now), from);
    }

    public int force(int what, int yard, int day, int known) {
        if (!isWithin(what, 0, 3) || !isWithin(day, 0, LAST_DAY) || !isWithin(known, 0, LAST_DAY)) {
            return BAD;
        }
        if (what >= 2) {
            return agreed.inForce(what == 2 ? HOURS : REST, day, known);
        }
        if (!isYard(yard)) {
            return BAD;
        }
        return agreed.inForce((what == 0 ? FREE : OWED) + yard, day, known);
    }

    public int detention(int t) {
        if (trailerAt(t) == null) {
            return BAD;
        }
        int times = 0;
        long owed = 0;
        for (int e = 0; e < entries.size; e++) {
            if (!entries.isOf(e, t, STANDS)) {
                continue;
            }
            int day = dayOf(entries.minutes[e]);
            int yard = entries.holders[e];
            int stood = entries.stoodTill(e, now) - entries.minutes[e];
            int beyond = stood - agreed.inForce(FREE + yard, day, day);
            if (beyond > 0) {
                times++;
                owed += (long) ((beyond + 59) / 60) * agreed.inForce(OWED + yard, day, day);
            }
        }
        answers.pence = owed;
        return times;
    }

    public long pence() {
        return answers.pence;
    }

    // ---- 4 loads, cold, thefts

    public int law(int axle, int kingpin) {
        if (!isWithin(axle, 0, 100000) || !isWithin(kingpin, 0, 100000)) {
            return BAD;
        }
        axleMost = axle;
        kingpinMost = kingpin;
        return 1;
    }

    public int load(int t, int w, int p) {
        Trailer x = trailerAt(t);
        if (x == null || !isWithin(w, 1, 20000) || !isWithin(p, 0, 130)) {
            return BAD;
        }
        if (x.loads >= LOADS) {
            return FULL;
        }
        x.loads++;
        x.weights += w;
        x.moments += w * p;
        return x.loads;
    }

    public int unload(int t) {
        Trailer x = trailerAt(t);
        if (x == null) {
            return BAD;
        }
        int had = x.loads;
        x.loads = 0;
        x.weights = 0;
        x.moments = 0;
        return had;
    }

    public int slide(int t, int a) {
        Trailer x = trailerAt(t);
        if (x == null || !isWithin(a, LEAST_AXLE, MOST_AXLE)) {
            return BAD;
        }
        int was = x.axle;
        x.axle = a;
        return was;
    }

    public int weight(int t, boolean kingpin) {
        Trailer x = trailerAt(t);
        if (x == null) {
            return BAD;
        }
        answers.tellFraction(kingpin ? x.weights * x.axle - x.moments : x.moments, x.axle);
        return 1;
    }

    public int lawful(int t) {
        Trailer x = trailerAt(t);
        if (x == null) {
            return BAD;
        }
        return x.isLawfulAt(x.axle, axleMost, kingpinMost) ? 1 : 0;
    }

    public int shift(int t) {
        Trailer x = trailerAt(t);
        if (x == null) {
            return BAD;
        }
        for (int d = 0; d <= MOST_AXLE - LEAST_AXLE; d++) {
            if (x.isLawfulAt(x.axle - d, axleMost, kingpinMost)) {
                return x.axle - d;
            }
            if (x.isLawfulAt(x.axle + d, axleMost, kingpinMost)) {
                return x.axle + d;
            }
        }
        return NONE;
    }

    public int cold(int t, int r, int what) {
        Trailer x = trailerAt(t);
        Line row = lineAt(rows, r);
        if (x == null || row == null || !isWithin(what, 0, 2)) {
            return BAD;
        }
        if (!x.isOf(KIND_COLD)) {
            return refuse(UNLIKE);
        }
        if (row.isMissing()) {
            return refuse(NOTHING);
        }
        x.looks++;
        if (what == 2) {
            return 10 * row.longestWarm(x.degrees);
        }
        return 10 * row.warmOnes(x.degrees, what == 1);
    }

    public int mean(int r) {
        Line row = lineAt(rows, r);
        if (row == null) {
            return BAD;
        }
        if (row.isMissing()) {
            return refuse(NOTHING);
        }
        int told = 0;
        long sum = 0;
        for (int i = 0; i < row.size; i++) {
            if (row.places[i] != GAP) {
                told++;
                sum += row.places[i];
            }
        }
        if (told == 0) {
            return refuse(NOUGHT);
        }
        return tells((int) (sum / told));
    }

    public int theft(int t) {
        if (trailerAt(t) == null) {
            return BAD;
        }
        int broken = entries.foundBroken(t);
        int seen = entries.seenWholeAhead(t, broken);
        if (broken == NONE || seen == NONE) {
            return STATE;
        }
        answers.asked = entries.minutes[seen];
        return entries.minutes[broken] - entries.minutes[seen];
    }

    public int hands(int t) {
        if (trailerAt(t) == null) {
            return BAD;
        }
        int broken = entries.foundBroken(t);
        int seen = entries.seenWholeAhead(t, broken);
        if (broken == NONE || seen == NONE) {
            return STATE;
        }
        int held = entries.holdersBetween(t, seen, broken);
        answers.asked = held;
        return Integer.bitCount(held);
    }

    // ---- 5 swaps

    public int swap(int a, int b, int homeA, int homeB) {
        Tractor x = tractorAt(a);
        Tractor y = tractorAt(b);
        if (x == null || y == null || a == b || !isYard(homeA) || !isYard(homeB)) {
            return BAD;
        }
        if (!canSwap(x) || !canSwap(y)) {
            return STATE;
        }
        swaps.meet(ways, now, x.yard, y.yard, homeA, homeB);
        if (swaps.meeting == NONE) {
            return refuse(NOTHING);
        }
        answers.asked = swaps.end;
        return swaps.meeting;
    }

    public int pairs(int set, int r) {
        Line homes = lineAt(rows, r);
        int many = Integer.bitCount(set);
        if (homes == null || !isWithin(set, 1, (1 << TRACTORS) - 1) || many % 2 != 0) {
            return BAD;
        }
        if (homes.isMissing()) {
            return refuse(NOTHING);
        }
        if (homes.size != TRACTORS) {
            return refuse(SIZE);
        }
        if (!homes.allWithin(0, YARDS - 1)) {
            return refuse(UNLIKE);
        }
        for (int k = 0; k < TRACTORS; k++) {
            if (hasBit(set, k) && !canSwap(tractors[k])) {
                return STATE;
            }
        }
        return orNothing(swaps.pairUp(ways, now, tractors, homes.places, set));
    }

    public int partner(int tractor) {
        return tractorAt(tractor) == null ? BAD : swaps.partners[tractor];
    }

    public int late(int a, int b, int homeB, int m, int minutes, int dawn) {
        Tractor x = tractorAt(a);
        Tractor y = tractorAt(b);
        if (x == null || y == null || a == b || !isYard(homeB) || !isYard(m)) {
            return BAD;
        }
        if (!isWithin(minutes, 0, 2000) || !isWithin(dawn, 0, LAST_MINUTE)) {
            return BAD;
        }
        if (!canSwap(x) || !canSwap(y)) {
            return STATE;
        }
        int lateOne = ways.arrival(x.yard, now, m);
        int other = ways.arrival(y.yard, now, m);
        if (lateOne == NEVER || other == NEVER) {
            return refuse(NOTHING);
        }
        int home = ways.arrival(m, Math.max(lateOne + minutes, other) + CHANGE_MINUTES, homeB);
        if (home == NEVER) {
            return refuse(NOTHING);
        }
        long waits = (long) Math.max(home - dawn, 0) * worthOf(y.trailer) / 1000;
        long goes = (worthOf(x.trailer) + worthOf(y.trailer)) / 10;
        answers.asked = (int) Math.min(waits, goes);
        return waits <= goes ? 1 : 0;
    }

    // ---- 6 lost ones, pools, rents

    public int canBe(int t) {
        Trailer x = trailerAt(t);
        if (x == null) {
            return BAD;
        }
        return x.lost ? yardsInReach(t) : STATE;
    }

    public int look(int t, int yard, int r) {
        Trailer x = trailerAt(t);
        Line weights = lineAt(rows, r);
        if (x == null || !isYard(yard) || weights == null) {
            return BAD;
        }
        if (!x.lost) {
            return STATE;
        }
        if (weights.isMissing()) {
            return refuse(NOTHING);
        }
        if (weights.size != YARDS) {
            return refuse(SIZE);
        }
        if (!weights.allWithin(0, MOST_WEIGHT)) {
            return refuse(UNLIKE);
        }
        int set = yardsInReach(t) & weights.placesAboveNought();
        int many = Integer.bitCount(set);
        if (many > MOST_LOOKED) {
            return FULL;
        }
        if (!search.order(ways, now, yard, set, weights.places)) {
            return refuse(NOTHING);
        }
        answers.asked = search.least;
        return many;
    }

    public int looked(int i) {
        return i >= 0 && i < search.size ? search.best[i] : NONE;
    }

    public int pool(int have, int need) {
        Line a = lineAt(rows, have);
        Line b = lineAt(rows, need);
        if (a == null || b == null) {
            return BAD;
        }
        if (a.isMissing() || b.isMissing()) {
            return refuse(NOTHING);
        }
        if (a.size != YARDS || b.size != YARDS) {
            return refuse(SIZE);
        }
        if (!a.allWithin(0, MOST_NEED) || !b.allWithin(0, MOST_NEED)) {
            return refuse(UNLIKE);
        }
        pools.share(ways, now, a.places, b.places);
        answers.asked = pools.minutes;
        return pools.lack();
    }

    public int rent(int r, int own, int p, int f, int l) {
        Line needs = lineAt(rows, r);
        if (needs == null || !isWithin(own, 0, 9)) {
            return BAD;
        }
        if (!isWithin(p, 0, 1000) || !isWithin(f, 0, 1000) || !isWithin(l, 0, 1000)) {
            return BAD;
        }
        if (needs.isMissing()) {
            return refuse(NOTHING);
        }
        if (needs.size == 0) {
            return refuse(SIZE);
        }
        if (!needs.allWithin(0, 9)) {
            return refuse(UNLIKE);
        }
        rents.setPrices(own, p, f, l);
        return rents.planDays(needs.places, needs.size);
    }

    public int rented(int day) {
        return day >= 0 && day < rents.days ? rents.plan[day] : NONE;
    }

    // ---- 7 what is told

    public int asked() {
        return answers.asked;
    }

    public long upper() {
        return answers.upper;
    }

    public long lower() {
        return answers.lower;
    }

    public int count(int what) {
        switch (what) {
            case 0:
                return now;
            case 1:
                return trailerCount;
            case 2:
                return lostOnes();
            case 3:
                return ways.size;
            case 4:
                return agreed.size;
            case 5:
                return entries.size;
            case 6:
                return linesThere(rows);
            case 7:
                return linesThere(texts);
            default:
                return BAD;
        }
    }

    public int finding() {
        return answers.latest;
    }

    public int findings(int f) {
        return isWithin(f, NOTHING, SIZE) ? answers.found[f] : BAD;
    }

    public long digest() {
        long h = 17;
        for (int what = 0; what <= 7; what++) {
            h = mix(h, count(what));
        }
        h = ways.mixInto(h);
        for (int t = 0; t < trailerCount; t++) {
            for (int what = 0; what <= 7; what++) {
                h = mix(h, trailers[t].says(what));
            }
        }
        for (int k = 0; k < TRACTORS; k++) {
            for (int what = 0; what <= 4; what++) {
                h = mix(h, tractors[k].says(what));
            }
        }
        h = entries.mixInto(h);
        h = agreed.mixInto(h);
        h = mix(h, axleMost);
        h = mix(h, kingpinMost);
        h = mixLines(h, rows);
        return mixLines(h, texts);
    }

    // ---- what the calls above share

    private static boolean isWithin(int v, int least, int most) {
        return v >= least && v <= most;
    }

    private static boolean isYard(int y) {
        return y >= 0 && y < YARDS;
    }

    private static boolean hasBit(int set, int i) {
        return (set >> i & 1) == 1;
    }

    private static int dayOf(int minute) {
        return minute / DAY_MINUTES;
    }

    private static long mix(long h, long v) {
        return 31 * h + v;
    }

    private static long mixLines(long start, Line[] lines) {
        long h = start;
        for (int r = 0; r < lines.length; r++) {
            h = mix(h, lines[r].size);
            for (int i = 0; i < lines[r].size; i++) {
                h = mix(h, lines[r].places[i]);
            }
        }
        return h;
    }

    private static int linesThere(Line[] lines) {
        int there = 0;
        for (int r = 0; r < lines.length; r++) {
            if (!lines[r].isMissing()) {
                there++;
            }
        }
        return there;
    }

    private static Line lineAt(Line[] lines, int r) {
        return r >= 0 && r < lines.length ? lines[r] : null;
    }

    private Trailer trailerAt(int t) {
        return t >= 0 && t < trailerCount ? trailers[t] : null;
    }

    private Tractor tractorAt(int k) {
        return k >= 0 && k < TRACTORS ? tractors[k] : null;
    }

    private int worthOf(int t) {
        Trailer x = trailerAt(t);
        return x == null ? 0 : x.worth;
    }

    private int lostOnes() {
        int lost = 0;
        for (int t = 0; t < trailerCount; t++) {
            if (trailers[t].lost) {
                lost++;
            }
        }
        return lost;
    }

    private boolean canSwap(Tractor k) {
        return !k.isOnTheWay(now) && k.trailer != NONE;
    }

    /** The yards, as bits, that can be come to by now from where and when a lost trailer was last told of. */
    private int yardsInReach(int t) {
        return ways.inReach(entries.latestYard(t), entries.latestHeld(t), now);
    }

    private int makeLine(Line line, int n, int v) {
        if (line == null || n > PLACES) {
            return BAD;
        }
        if (n < 0) {
            return refuse(SIZE);
        }
        line.size = n;
        Arrays.fill(line.places, v);
        return n;
    }

    private int tells(int v) {
        answers.asked = v;
        return 1;
    }

    private int refuse(int finding) {
        answers.latest = finding;
        answers.found[finding]++;
        return FINDING;
    }

    private int orNothing(int minutes) {
        return minutes == NEVER ? refuse(NOTHING) : minutes;
    }

    /** What the latest calls told beside their answers. */
    private static final class Answers {
        private final int[] found = new int[SIZE + 1];
        private int latest;
        private int asked;
        private long pence;
        private long upper;
        private long lower = 1;

        private void tellFraction(long above, long below) {
            long divisor = commonDivisor(Math.abs(above), below);
            if (divisor <= 0) {
                return;
            }
            upper = above / divisor;
            lower = below / divisor;
        }

        private static long commonDivisor(long a, long b) {
            long x = a;
            long y = b;
            // Euclid's steps halve the numbers every second time, so 128 are more than a long can need.
            for (int step = 0; step < 128 && y != 0; step++) {
                long left = x % y;
                x = y;
                y = left;
            }
            return x;
        }
    }

    /** A ROW's ints or a TEXT's bytes; missing at first. */
    private static final class Line {
        private final int[] places = new int[PLACES];
        private int size = MISSING;

        private boolean isMissing() {
            return size < 0;
        }

        private boolean has(int i) {
            return i >= 0 && i < size;
        }

        private boolean hasSpan(int i, int n) {
            return i >= 0 && i <= size && n >= 0 && n <= size - i;
        }

        private boolean allWithin(int least, int most) {
            for (int i = 0; i < size; i++) {
                if (places[i] < least || places[i] > most) {
                    return false;
                }
            }
            return true;
        }

        private int placesAboveNought() {
            int set = 0;
            for (int i = 0; i < size && i < YARDS; i++) {
                if (places[i] > 0) {
                    set |= 1 << i;
                }
            }
            return set;
        }

        private int warmOnes(int degrees, boolean withGaps) {
            int many = 0;
            for (int i = 0; i < size; i++) {
                if (places[i] == GAP ? withGaps : places[i] > degrees) {
                    many++;
                }
            }
            return many;
        }

        private int longestWarm(int degrees) {
            int longest = 0;
            int run = 0;
            for (int i = 0; i < size; i++) {
                run = places[i] == GAP || places[i] > degrees ? run + 1 : 0;
                longest = Math.max(longest, run);
            }
            return longest;
        }
    }

    private static final class Trailer {
        private final int kind;
        private final int worth;
        private final int firstMinute;
        private int yard;
        private int tractor = NONE;
        private boolean lost;
        private boolean sealed;
        private int degrees;
        private int looks;
        private int axle = 100;
        private int loads;
        // The sums of w and of w times p tell all that is ever asked of the loads.
        private int weights;
        private int moments;

        private Trailer(int kind, int yard, int worth, int minute) {
            this.kind = kind;
            this.yard = yard;
            this.worth = worth;
            this.firstMinute = minute;
            this.degrees = kind == KIND_FROZEN ? -18 : 5;
        }

        private boolean isOf(int other) {
            return kind == other || kind == KIND_FROZEN && other == KIND_COLD;
        }

        private int says(int what) {
            switch (what) {
                case 0:
                    return kind;
                case 1:
                    return yard;
                case 2:
                    return tractor;
                case 3:
                    return lost ? 1 : 0;
                case 4:
                    return worth;
                case 5:
                    return axle;
                case 6:
                    return loads;
                default:
                    return sealed ? 1 : 0;
            }
        }

        /** Both sides times a, so that no fraction is needed. */
        private boolean isLawfulAt(int a, int axleMost, int kingpinMost) {
            if (a < LEAST_AXLE || a > MOST_AXLE) {
                return false;
            }
            int onKingpin = weights * a - moments;
            return moments <= axleMost * a && onKingpin <= kingpinMost * a && onKingpin >= 0;
        }
    }

    private static final class Tractor {
        private int yard;
        private int there;
        private int trailer = NONE;
        private int driven;
        private int everDriven;

        private boolean isOnTheWay(int now) {
            return now < there;
        }

        private int says(int what) {
            switch (what) {
                case 0:
                    return yard;
                case 1:
                    return there;
                case 2:
                    return trailer;
                case 3:
                    return driven;
                default:
                    return everDriven;
            }
        }
    }

    /** The ways between the yards, each held for both directions. */
    private static final class Ways {
        private final int[] minutes = new int[YARDS * YARDS];
        private final int[] tolls = new int[YARDS * YARDS];
        private final int[] every = new int[YARDS * YARDS];
        private final int[] first = new int[YARDS * YARDS];
        private final int[] reached = new int[YARDS];
        private int size;

        private boolean joins(int a, int b) {
            return isYard(a) && isYard(b) && minutes[a * YARDS + b] > 0;
        }

        private void join(int a, int b, int m, int toll) {
            if (!isYard(a) || !isYard(b)) {
                return;
            }
            if (!joins(a, b)) {
                size++;
            }
            minutes[a * YARDS + b] = m;
            minutes[b * YARDS + a] = m;
            tolls[a * YARDS + b] = toll;
            tolls[b * YARDS + a] = toll;
            makeFerry(a, b, 0, 0);
        }

        private void makeFerry(int a, int b, int e, int f) {
            if (!isYard(a) || !isYard(b)) {
                return;
            }
            every[a * YARDS + b] = e;
            every[b * YARDS + a] = e;
            first[a * YARDS + b] = f;
            first[b * YARDS + a] = f;
        }

        private int arrival(int a, int at, int b) {
            reach(a, at, false, reached);
            return isYard(b) ? reached[b] : NEVER;
        }

        private int leastToll(int a, int b) {
            reach(a, 0, true, reached);
            return isYard(b) ? reached[b] : NEVER;
        }

        /** The yards, as bits, to which one comes by a minute. */
        private int inReach(int from, int at, int by) {
            reach(from, at, false, reached);
            int set = 0;
            for (int y = 0; y < YARDS; y++) {
                if (reached[y] <= by) {
                    set |= 1 << y;
                }
            }
            return set;
        }

        /** The earliest minutes, or least tolls, from one yard to each; who comes earlier never leaves later. */
        private void reach(int from, int start, boolean byToll, int[] out) {
            Arrays.fill(out, NEVER);
            if (!isYard(from) || out.length < YARDS) {
                return;
            }
            out[from] = start;
            int settled = 0;
            for (int round = 0; round < YARDS; round++) {
                int y = nearest(out, settled);
                if (y == NONE) {
                    return;
                }
                settled |= 1 << y;
                for (int z = 0; z < YARDS; z++) {
                    if (minutes[y * YARDS + z] > 0) {
                        out[z] = Math.min(out[z], next(y * YARDS + z, out[y], byToll));
                    }
                }
            }
        }

        private static int nearest(int[] out, int settled) {
            int best = NONE;
            int least = NEVER;
            for (int y = 0; y < YARDS && y < out.length; y++) {
                if (!hasBit(settled, y) && out[y] < least) {
                    best = y;
                    least = out[y];
                }
            }
            return best;
        }

        private int next(int spot, int sofar, boolean byToll) {
            if (byToll) {
                return sofar + tolls[spot];
            }
            int e = every[spot];
            int wait = e > 0 ? Math.floorMod(first[spot] - sofar, e) : 0;
            return sofar + wait + minutes[spot];
        }

        private long mixInto(long start) {
            long h = start;
            for (int a = 0; a < YARDS; a++) {
                for (int b = a + 1; b < YARDS; b++) {
                    int spot = a * YARDS + b;
                    h = mix(mix(h, minutes[spot]), tolls[spot]);
                    h = mix(mix(h, every[spot]), first[spot]);
                }
            }
            return h;
        }
    }

    /** THE BOOK of all trailers, in the order told. */
    private static final class Book {
        private static final int MOST = 60;

        private final int[] trailers = new int[MOST];
        private final int[] sorts = new int[MOST];
        private final int[] minutes = new int[MOST];
        private final int[] holders = new int[MOST];
        private int size;

        private boolean isFull() {
            return size >= MOST;
        }

        private void enter(int t, int sort, int minute, int holder) {
            if (isFull()) {
                return;
            }
            trailers[size] = t;
            sorts[size] = sort;
            minutes[size] = minute;
            holders[size] = holder;
            size++;
        }

        private boolean isOf(int e, int t, int sort) {
            return e >= 0 && e < size && trailers[e] == t && sorts[e] == sort;
        }

        /** The entry with number i among those of one trailer. */
        private int entryOf(int t, int i) {
            int left = i;
            for (int e = 0; e < size; e++) {
                if (trailers[e] == t) {
                    if (left == 0) {
                        return e;
                    }
                    left--;
                }
            }
            return NONE;
        }

        private int says(int e, int what) {
            if (e < 0 || e >= size) {
                return NONE;
            }
            if (what == 0) {
                return sorts[e];
            }
            return what == 1 ? minutes[e] : holders[e];
        }

        private int placeAt(int t, int minute) {
            int place = NONE;
            for (int e = 0; e < size && minutes[e] <= minute; e++) {
                if (isOf(e, t, STANDS)) {
                    place = holders[e];
                } else if (isOf(e, t, HITCHED)) {
                    place = 10 + holders[e];
                } else if (isOf(e, t, LOST)) {
                    place = 20;
                }
            }
            return place;
        }

        /** Till when one stood that came to a yard with entry e. */
        private int stoodTill(int e, int now) {
            if (e < 0 || e >= size) {
                return now;
            }
            int t = trailers[e];
            for (int i = e + 1; i < size; i++) {
                if (isOf(i, t, HITCHED) || isOf(i, t, LOST)) {
                    return minutes[i];
                }
            }
            return now;
        }

        private int foundBroken(int t) {
            for (int e = size - 1; e >= 0; e--) {
                if (isOf(e, t, BROKEN)) {
                    return e;
                }
            }
            return NONE;
        }

        private int seenWholeAhead(int t, int broken) {
            for (int e = broken - 1; e >= 0; e--) {
                if (isOf(e, t, SEALED) || isOf(e, t, WHOLE)) {
                    return e;
                }
            }
            return NONE;
        }

        private int holdersBetween(int t, int seen, int broken) {
            int held = 0;
            for (int e = 0; e < size && e < broken; e++) {
                int bit = 0;
                if (isOf(e, t, STANDS)) {
                    bit = 1 << holders[e];
                } else if (isOf(e, t, HITCHED)) {
                    bit = 1 << YARDS + holders[e];
                }
                // Ahead of the look at the seal only the last one that had it counts.
                if (bit != 0) {
                    held = e < seen ? bit : held | bit;
                }
            }
            return held;
        }

        /** One is hitched where it stands, so the yard of its latest entry 0 is that of an entry 1 behind it, too. */
        private int latestYard(int t) {
            for (int e = size - 1; e >= 0; e--) {
                if (isOf(e, t, STANDS)) {
                    return holders[e];
                }
            }
            return NONE;
        }

        private int latestHeld(int t) {
            for (int e = size - 1; e >= 0; e--) {
                if (isOf(e, t, STANDS) || isOf(e, t, HITCHED)) {
                    return minutes[e];
                }
            }
            return 0;
        }

        private long mixInto(long start) {
            long h = start;
            for (int e = 0; e < size; e++) {
                h = mix(mix(h, trailers[e]), sorts[e]);
                h = mix(mix(h, minutes[e]), holders[e]);
            }
            return h;
        }
    }

    /** All TERMS ever told: of each the last item about each thing. */
    private static final class Terms {
        private static final int MOST = 20, MOST_DIGITS = 4, ABSENT = -1;
        private static final int ZERO = 48, NINE = 57;

        private final int[] toldOn = new int[MOST];
        private final int[] from = new int[MOST];
        private final int[] items = new int[MOST * THINGS];
        private final int[] draft = new int[THINGS];
        private int size;

        private boolean isFull() {
            return size >= MOST;
        }

        /** Reads a text's items into the draft: where its fault is, or NONE. */
        private int read(Line text) {
            Arrays.fill(draft, ABSENT);
            int thing = ABSENT;
            boolean wantsYard = false;
            boolean wantsDigit = false;
            int digits = 0;
            for (int i = 0; i < text.size; i++) {
                int sign = text.places[i];
                boolean isDigit = sign >= ZERO && sign <= NINE;
                if (wantsYard) {
                    if (!isDigit || !isYard(sign - ZERO)) {
                        return i;
                    }
                    thing += sign - ZERO;
                    wantsYard = false;
                } else if (isDigit && thing != ABSENT && digits < MOST_DIGITS) {
                    addDigit(thing, digits, sign - ZERO);
                    digits++;
                    wantsDigit = false;
                } else if (wantsDigit || sign != BLANK && thingOf(sign) == ABSENT) {
                    return i;
                } else {
                    thing = thingOf(sign);
                    digits = 0;
                    wantsDigit = thing != ABSENT;
                    wantsYard = thing == FREE || thing == OWED;
                }
            }
            return wantsDigit ? text.size : NONE;
        }

        private void addDigit(int thing, int digits, int digit) {
            if (thing >= 0 && thing < THINGS) {
                draft[thing] = digits == 0 ? digit : 10 * draft[thing] + digit;
            }
        }

        private static int thingOf(int sign) {
            switch (sign) {
                case 'F':
                    return FREE;
                case 'D':
                    return OWED;
                case 'H':
                    return HOURS;
                case 'R':
                    return REST;
                default:
                    return ABSENT;
            }
        }

        /** Keeps the draft as TERMS: their number. */
        private int keep(int day, int fromDay) {
            if (isFull()) {
                return FULL;
            }
            toldOn[size] = day;
            from[size] = fromDay;
            System.arraycopy(draft, 0, items, size * THINGS, THINGS);
            size++;
            return size - 1;
        }

        private int inForce(int thing, int day, int known) {
            if (thing < 0 || thing >= THINGS) {
                return 0;
            }
            int best = ABSENT;
            for (int i = 0; i < size; i++) {
                boolean counts = toldOn[i] <= known && from[i] <= day && items[i * THINGS + thing] != ABSENT;
                if (counts && (best == ABSENT || from[i] >= from[best])) {
                    best = i;
                }
            }
            return best == ABSENT ? atFirst(thing) : items[best * THINGS + thing];
        }

        private static int atFirst(int thing) {
            if (thing < OWED) {
                return 120;
            }
            if (thing < HOURS) {
                return 0;
            }
            return thing == HOURS ? 600 : 480;
        }

        private long mixInto(long start) {
            long h = start;
            for (int i = 0; i < size; i++) {
                h = mix(mix(h, toldOn[i]), from[i]);
            }
            return h;
        }
    }

    /** Where two tractors meet, and who meets whom. */
    private static final class Swaps {
        private final int[] toA = new int[YARDS];
        private final int[] toB = new int[YARDS];
        private final int[] back = new int[YARDS];
        private final int[] ends = new int[TRACTORS * TRACTORS];
        private final int[] trial = {NONE, NONE, NONE, NONE, NONE, NONE};
        private final int[] partners = {NONE, NONE, NONE, NONE, NONE, NONE};
        private int meeting = NONE;
        private int end = NEVER;
        private int leastEnd = NEVER;

        /** THE SWAP: its yard (NONE) and END. */
        private void meet(Ways ways, int now, int yardA, int yardB, int homeA, int homeB) {
            meeting = NONE;
            end = NEVER;
            int least = NEVER;
            ways.reach(yardA, now, false, toA);
            ways.reach(yardB, now, false, toB);
            for (int m = 0; m < YARDS; m++) {
                int both = Math.max(toA[m], toB[m]);
                if (both == NEVER || !isYard(homeA) || !isYard(homeB)) {
                    continue;
                }
                ways.reach(m, both + CHANGE_MINUTES, false, back);
                int later = Math.max(back[homeA], back[homeB]);
                if (later == NEVER) {
                    continue;
                }
                int sum = back[homeA] + back[homeB];
                if (later < end || later == end && sum < least) {
                    meeting = m;
                    end = later;
                    least = sum;
                }
            }
        }

        /** PAIRS: the greatest END, or NEVER, and then the partners stay as they were. */
        private int pairUp(Ways ways, int now, Tractor[] tractors, int[] homes, int set) {
            Arrays.fill(ends, NEVER);
            for (int a = 0; a < tractors.length && a < TRACTORS && a < homes.length; a++) {
                for (int b = 0; b < a; b++) {
                    if (hasBit(set, a) && hasBit(set, b)) {
                        meet(ways, now, tractors[b].yard, tractors[a].yard, homes[b], homes[a]);
                        ends[b * TRACTORS + a] = end;
                    }
                }
            }
            Arrays.fill(trial, NONE);
            leastEnd = NEVER;
            partOut(this, set, 0, 0);
            return leastEnd;
        }

        private static void partOut(Swaps s, int left, int worst, int depth) {
            if (left == 0) {
                s.leastEnd = worst;
                System.arraycopy(s.trial, 0, s.partners, 0, TRACTORS);
                return;
            }
            if (depth >= TRACTORS / 2) {
                return;
            }
            int a = leastOf(left);
            for (int b = a + 1; b < TRACTORS; b++) {
                int worse = Math.max(worst, s.ends[a * TRACTORS + b]);
                // A way to part them that comes later must be better, not alike.
                if (hasBit(left, b) && worse < s.leastEnd) {
                    s.trial[a] = b;
                    s.trial[b] = a;
                    partOut(s, left & ~(1 << a) & ~(1 << b), worse, depth + 1);
                }
            }
        }

        private static int leastOf(int set) {
            for (int k = 0; k < TRACTORS; k++) {
                if (hasBit(set, k)) {
                    return k;
                }
            }
            return 0;
        }
    }

    /** In what order to look for a lost trailer. */
    private static final class Search {
        private final int[][] reached = new int[MOST_LOOKED][YARDS];
        private final int[] weights = new int[YARDS];
        private final int[] trial = new int[MOST_LOOKED];
        private final int[] best = new int[MOST_LOOKED];
        private int size;
        private int least;
        private int start;

        /** False, and nothing changes, if none leads to one of the yards. */
        private boolean order(Ways ways, int now, int yard, int set, int[] weightOf) {
            ways.reach(yard, now, false, reached[0]);
            for (int y = 0; y < YARDS && y < weightOf.length; y++) {
                if (hasBit(set, y) && reached[0][y] == NEVER) {
                    return false;
                }
                weights[y] = weightOf[y];
            }
            start = now;
            size = Integer.bitCount(set);
            least = NEVER;
            goOn(this, ways, set, yard, now, 0, 0);
            return true;
        }

        private static void goOn(Search s, Ways ways, int left, int from, int at, int depth, int sum) {
            if (left == 0) {
                s.least = sum;
                System.arraycopy(s.trial, 0, s.best, 0, MOST_LOOKED);
                return;
            }
            if (depth >= MOST_LOOKED) {
                return;
            }
            int[] there = s.reached[depth];
            ways.reach(from, at, false, there);
            // No order can come anywhere earlier than straight from here, and a later order must be better, not alike.
            if (sum + s.straight(there, left) >= s.least) {
                return;
            }
            for (int y = 0; y < YARDS; y++) {
                if (hasBit(left, y)) {
                    s.trial[depth] = y;
                    int more = sum + s.weights[y] * (there[y] - s.start);
                    if (more < s.least) {
                        goOn(s, ways, left & ~(1 << y), y, there[y], depth + 1, more);
                    }
                }
            }
        }

        private int straight(int[] there, int left) {
            int sum = 0;
            for (int y = 0; y < YARDS && y < there.length; y++) {
                if (hasBit(left, y)) {
                    sum += weights[y] * (there[y] - start);
                }
            }
            return sum;
        }
    }

    /** Brings trailers one shortest path after the other, so that what is brought always costs the least. */
    private static final class Pool {
        private final int[] spare = new int[YARDS];
        private final int[] lacking = new int[YARDS];
        private final boolean[] lacks = new boolean[YARDS];
        private final int[] costs = new int[YARDS * YARDS];
        private final int[] brought = new int[YARDS * YARDS];
        private final int[] far = new int[YARDS];
        private final int[] via = new int[YARDS];
        private final int[] reached = new int[YARDS];
        private int minutes;

        private void share(Ways ways, int now, int[] have, int[] need) {
            minutes = 0;
            for (int y = 0; y < YARDS && y < have.length && y < need.length; y++) {
                spare[y] = Math.max(have[y] - need[y], 0);
                lacking[y] = Math.max(need[y] - have[y], 0);
                lacks[y] = lacking[y] > 0;
            }
            Arrays.fill(brought, 0);
            measure(ways, now);
            // Each step brings one at least, so there are no more steps than what can be lacking.
            for (int step = 0; step < YARDS * MOST_NEED; step++) {
                findPaths();
                int to = nearestLacking();
                if (to == NONE) {
                    return;
                }
                bring(to);
            }
        }

        private void measure(Ways ways, int now) {
            Arrays.fill(costs, NEVER);
            for (int from = 0; from < YARDS; from++) {
                if (spare[from] > 0) {
                    ways.reach(from, now, false, reached);
                    for (int to = 0; to < YARDS; to++) {
                        if (lacks[to] && reached[to] != NEVER) {
                            costs[from * YARDS + to] = reached[to] - now;
                        }
                    }
                }
            }
        }

        /** Shortest paths from all that have spare ones, also by taking back what was brought before. */
        private void findPaths() {
            for (int y = 0; y < YARDS; y++) {
                far[y] = spare[y] > 0 ? 0 : NEVER;
                via[y] = NONE;
            }
            boolean shorter = true;
            for (int round = 0; round < YARDS && shorter; round++) {
                shorter = false;
                for (int spot = 0; spot < YARDS * YARDS; spot++) {
                    if (costs[spot] != NEVER) {
                        boolean there = shorten(spot / YARDS, spot % YARDS, costs[spot]);
                        boolean back = brought[spot] > 0 && shorten(spot % YARDS, spot / YARDS, -costs[spot]);
                        shorter = shorter || there || back;
                    }
                }
            }
        }

        private boolean shorten(int from, int to, int cost) {
            if (far[from] == NEVER || far[from] + cost >= far[to]) {
                return false;
            }
            far[to] = far[from] + cost;
            via[to] = from;
            return true;
        }

        private int nearestLacking() {
            int best = NONE;
            for (int y = 0; y < YARDS; y++) {
                if (lacking[y] > 0 && far[y] != NEVER && (best == NONE || far[y] < far[best])) {
                    best = y;
                }
            }
            return best;
        }

        private void bring(int to) {
            int many = lacking[to];
            int y = to;
            for (int step = 0; step < YARDS && via[y] != NONE; step++) {
                if (!lacks[y]) {
                    many = Math.min(many, brought[y * YARDS + via[y]]);
                }
                y = via[y];
            }
            many = Math.min(many, spare[y]);
            spare[y] -= many;
            lacking[to] -= many;
            minutes += many * far[to];
            y = to;
            for (int step = 0; step < YARDS && via[y] != NONE; step++) {
                if (lacks[y]) {
                    brought[via[y] * YARDS + y] += many;
                } else {
                    brought[y * YARDS + via[y]] -= many;
                }
                y = via[y];
            }
        }

        private int lack() {
            int sum = 0;
            for (int y = 0; y < YARDS; y++) {
                sum += lacking[y];
            }
            return sum;
        }
    }

    /** How many to rent on each day. */
    private static final class Rents {
        private static final int CHOICES = MOST_RENTED + 1;

        // The least cost of a day and all behind it, by how many were rented on the day ahead.
        private final int[] least = new int[(PLACES + 1) * CHOICES];
        private final int[] plan = new int[PLACES];
        private int days;
        private int own;
        private int perDay;
        private int perFetch;
        private int perLack;
        private int leastCost;

        private void setPrices(int owned, int p, int f, int l) {
            own = owned;
            perDay = p;
            perFetch = f;
            perLack = l;
        }

        /** RENT for that many days: the cost. */
        private int planDays(int[] needs, int many) {
            days = Math.min(many, Math.min(PLACES, needs.length));
            Arrays.fill(least, 0);
            for (int d = days - 1; d >= 0; d--) {
                for (int before = 0; before < CHOICES; before++) {
                    firstBest(d, needs[d], before);
                    least[d * CHOICES + before] = leastCost;
                }
            }
            int before = 0;
            for (int d = 0; d < days; d++) {
                before = firstBest(d, needs[d], before);
                plan[d] = before;
            }
            return least[0];
        }

        /** The fewest to rent on a day that cost the least from it on, told by leastCost. */
        private int firstBest(int d, int need, int before) {
            int best = 0;
            leastCost = NEVER;
            for (int x = 0; x < CHOICES; x++) {
                int cost = costFrom(d, need, before, x);
                if (cost < leastCost) {
                    best = x;
                    leastCost = cost;
                }
            }
            return best;
        }

        private int costFrom(int d, int need, int before, int x) {
            int fetched = Math.max(x - before, 0);
            int lacking = Math.max(need - own - x, 0);
            return perDay * x + perFetch * fetched + perLack * lacking + least[(d + 1) * CHOICES + x];
        }
    }
}
