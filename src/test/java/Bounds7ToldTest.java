import java.util.ArrayList;
import java.util.List;

/** The boundary cases of promises 53 to 59, of what is refused and of an object's last call. */
public final class Bounds7ToldTest {
    private static final int BAD = -1, FULL = -2, FINDING = -3, STATE = -4, NONE = -9;
    private static final int NOTHING = 1, BEYOND = 2, UNLIKE = 3, NOUGHT = 4, SIZE = 5;

    public static void main(String[] args) {
        refused();
        asked();
        fractions();
        count();
        findings();
        digest();
        Check.end();
    }

    private static void refused() {
        constants();
        refusedInThisOrder();
        refusedChangesNothing();
        eachFinding();
        lastCall();
    }

    private static void asked() {
        askedBefore();
        askedOfEach();
        askedOfNoOthers();
        askedNotOfRefused();
    }

    private static void fractions() {
        upperBefore();
        lowerBefore();
        fractionToldLast();
    }

    private static void count() {
        countOfEach();
        countOfWhatIsThere();
        countBad();
    }

    private static void findings() {
        findingBefore();
        findingLatest();
        findingsHowOften();
        findingsBad();
    }

    private static void digest() {
        digestOfNew();
        digestOfWays();
        digestOfRowsAndTexts();
        digestOfTrailersAndTractors();
        digestOfTheBook();
        digestOfTerms();
        digestOfLaw();
        digestChangesNothing();
    }

    // ---- what is refused, and the last call

    private static void constants() {
        Run.terms("BAD -1 (a number that is none, or not as told), FULL -2, STATE -4 (not now), FINDING -3");
        Check.due("BAD", TrailerYards.BAD, BAD);
        Check.due("FULL", TrailerYards.FULL, FULL);
        Check.due("FINDING", TrailerYards.FINDING, FINDING);
        Check.due("STATE", TrailerYards.STATE, STATE);
        Run.terms("NONE -9.");
        Check.due("NONE", TrailerYards.NONE, NONE);
    }

    private static void refusedInThisOrder() {
        Run run = Run.terms("Refused is, the first of these that fits, in this order");
        run.after("text(0, 0)").times(20, "terms(0, 0)").bad("terms(3, 70)").full("terms(3, 0)")
            .times(12, "trailer(0, 0, 0)");
        run.bad("trailer(0, 0, -1)").full("trailer(0, 0, 0)").bad("swap(0, 0, 0, 0)").state("swap(0, 1, 7, 7)")
            .bad("go(0, 0)");
        run.finds(NOTHING, "go(0, 1)").bad("lay(6, 0, 0)").finds(NOTHING, "lay(0, 0, 0)");
    }

    /** That a refused call changes nothing is looked at for each refused call of these tests: here on an object full of all. */
    private static void refusedChangesNothing() {
        Run run = busy(Run.terms("What is refused changes nothing but finding(), findings()."));
        run.bad("row(0, 41); lay(6, 0, 0); tear(6); copy(0, 0, 6, 0, 1); text(0, 41); put(4, 0, 0); fault(4)")
            .bad("later(-1)");
        run.bad("way(0, 0, 1, 0); ferry(0, 1, 0, 0); comes(0, 0, 8); toll(0, 8); trailer(4, 0, 0); told(0, 8)")
            .bad("mark(0, 0)");
        run.bad("limit(1, 51); park(0, 8); hitch(6, 0); drop(6); go(0, 8); tractor(0, 5); lose(9); find(2, 8)")
            .bad("seal(0, 6)");
        run.bad("book(0, 0, 3); where(0, -1); terms(0, 70); force(4, 0, 0, 0); detention(9); law(-1, 0)")
            .bad("load(0, 0, 0)");
        run.bad("unload(9); slide(0, 59); weight(9, true); lawful(9); shift(9); cold(1, 0, 3); mean(6); theft(9)")
            .bad("hands(9)");
        run.bad("swap(0, 0, 0, 0); pairs(1, 0); partner(6); late(0, 1, 0, 0, 2001, 0); canBe(9); look(2, 8, 1)")
            .bad("pool(0, 6)");
        run.bad("rent(1, 10, 0, 0, 0); count(8); findings(6)");
        run.state("park(3, 0); hitch(3, 0); drop(3); go(3, 1); lose(2); find(0, 0); seal(0, 3); terms(1, 0); theft(1)")
            .state("hands(1)");
        run.state("swap(0, 3, 0, 0); pairs(9, 0); late(0, 3, 0, 0, 0, 0); canBe(0); look(0, 0, 1)");
        run.finds(SIZE, "row(0, -1); copy(0, 0, 0, 0, -1); text(0, -1); pairs(3, 1); look(2, 0, 0); pool(0, 1); rent(2, 0, 1, 1, 1)");
        run.finds(NOTHING, "lay(5, 0, 0); tear(5); copy(0, 0, 5, 0, 0); put(2, 0, 0); fault(2); ferry(0, 7, 1, 0); comes(0, 0, 7)");
        run.finds(NOTHING, "toll(0, 7); go(4, 7); terms(2, 0); cold(1, 5, 0); mean(5); swap(0, 1, 7, 7); pairs(3, 5); pairs(3, 3)");
        run.finds(NOTHING, "late(0, 1, 7, 0, 0, 0); look(2, 0, 5); look(2, 7, 1); pool(0, 5); rent(5, 0, 1, 1, 1)");
        run.finds(BEYOND, "lay(0, 6, 0); copy(0, 5, 0, 0, 2); put(0, 2, 0)").finds(NOUGHT, "mean(2)");
        run.finds(UNLIKE, "mark(0, 1); mark(1, 3); limit(0, 0); cold(0, 0, 0); pairs(3, 4)");
    }

    /** Trailers of two kinds, one lost, one with loads and a broken seal behind it; a swap, a look, a rent, .. told. */
    private static Run busy(Run run) {
        run.after("way(0, 1, 10, 3); way(1, 2, 20, 4); ferry(1, 2, 50, 7); trailer(0, 0, 5000); trailer(1, 0, 900)")
            .after("trailer(2, 1, 70)");
        run.after("hitch(0, 0); hitch(1, 1); seal(0, 3); later(3); seal(0, 5); seal(0, 3); load(0, 70, 33); later(40)")
            .after("lose(2)");
        run.told("H50R7F01D09", 0).after("text(0, 2); text(1, 1); put(1, 0, 72); trailer(3, 1, 8)");
        run.after("park(3, 1); hitch(3, 3); row(0, 6); row(3, 6); lay(3, 1, 7); row(4, 6); lay(4, 5, 8); row(2, 0)");
        run.row(1, 5, 1, 2, 0, 0, 0, 0, 0)
            .after("look(2, 0, 1); rent(1, 1, 1, 1, 9); pairs(3, 0); detention(1); weight(0, true)");
        run.after("cold(3, 1, 0); later(1000); go(3, 0); mean(1); theft(0); hands(0); swap(0, 1, 0, 1)");
        return run.after("text(3, 0); tractor(3, 1)").due("asked()", 1053).state("park(3, 1)");
    }

    private static void eachFinding() {
        Run run = Run.terms("FINDINGS: 1 NOTHING (a ROW, a TEXT that is missing; no way there)");
        run.finds(NOTHING, "tear(0); fault(0); comes(0, 0, 1)");
        run = Run.terms("2 BEYOND (a place that there is not)").after("row(0, 1)").finds(BEYOND, "lay(0, 1, 0)");
        run = Run.terms("3 UNLIKE (a TRAILER of another KIND)").after("trailer(0, 0, 0)").finds(UNLIKE, "mark(0, 1)");
        run = Run.terms("4 NOUGHT (shared among none)").after("row(0, 0)").finds(NOUGHT, "mean(0)");
        run = Run.terms("5 SIZE (fewer than none; not as many as due)").after("row(0, 7)")
            .finds(SIZE, "row(0, -1); pool(0, 0)");
    }

    private static void lastCall() {
        Check.holds("calls", Document.text().contains("at most 512 calls after it has been made"));
        TrailerYards x = new TrailerYards();
        for (int call = 1; call < 512; call++) {
            Check.due("later", x.later(1), call);
        }
        Check.due("the 512th call", x.later(7), 518);
    }

    // ---- promise 53

    private static void askedBefore() {
        Run.promise(53, "0 before").due("asked()", 0).after("row(0, 0); trailer(0, 7, 0); later(5)").bad("told(1, 1)")
            .due("asked()", 0);
    }

    private static void askedOfEach() {
        Run run = Run.promise(53, "lay(), told(), limit(), tractor(), mean(), theft(), hands(), swap(), late(), look(), pool()");
        run.row(0, 4, 6).asks("lay(0, 0, 8)", 4).after("trailer(1, 3, 1000)").asks("told(0, 1)", 3)
            .asks("limit(0, 9)", 5);
        run.after("later(2); park(2, 3); park(1, 3)").asks("tractor(2, 1)", 2).asks("mean(0)", 7)
            .after("seal(0, 3); later(4); seal(0, 5)");
        run.asks("theft(0)", 2).asks("hands(0)", 8).after("hitch(2, 0); trailer(0, 3, 3000); hitch(1, 1)")
            .asks("swap(1, 2, 3, 3)", 16);
        run.asks("late(1, 2, 3, 3, 0, 11)", 5).after("lose(0); way(3, 4, 10, 0); later(10)")
            .row(1, 0, 0, 0, 0, 6, 0, 0, 0);
        run.asks("look(0, 3, 1)", 60).row(2, 0, 0, 0, 7, 0, 0, 0, 0).asks("pool(2, 1)", 60).asks("pool(1, 2)", 60);
        run.asks("pool(1, 1)", 0);
    }

    private static void askedOfNoOthers() {
        Run run = Run.promise(53, "asked()").row(0, 44, 0, 0, 0, 0, 0).asks("lay(0, 0, 0)", 44)
            .after("copy(0, 0, 0, 1, 1); row(1, 1); tear(1)");
        run.after("text(0, 2); put(0, 1, 32); fault(0); later(3); way(0, 1, 9, 9); ferry(0, 1, 9, 8); comes(0, 0, 1)")
            .after("toll(0, 1)");
        run.after("trailer(3, 0, 9); mark(0, 3); park(0, 0); hitch(0, 0); drop(0); go(5, 1); seal(0, 3); seal(0, 5)")
            .after("book(0, 0, 0)");
        run.after("where(0, 1); terms(0, 0); force(0, 0, 0, 0); detention(0); pence(); law(5, 5); load(0, 3, 3)")
            .after("unload(0); slide(0, 99)");
        run.after("weight(0, true); lawful(0); shift(0); cold(0, 0, 0); trailer(0, 0, 0); hitch(0, 0); hitch(1, 1)")
            .after("pairs(3, 0); partner(0)");
        run.after("lose(1); canBe(1); looked(0); rent(0, 0, 9, 9, 9); rented(0); upper(); lower(); count(0)")
            .after("finding(); findings(1)");
        run.after("find(1, 0)").due("asked()", 44);
    }

    private static void askedNotOfRefused() {
        Run run = Run.promise(53, "that was not refused told").row(0, 44).asks("lay(0, 0, 45)", 44)
            .bad("lay(6, 0, 1); told(0, 0); limit(0, 0)");
        run.bad("tractor(0, 5); mean(6); theft(0); hands(0); swap(0, 0, 0, 0); late(0, 0, 0, 0, 0, 0); look(0, 0, 0)")
            .bad("pool(0, 6)");
        run.finds(NOTHING, "lay(1, 0, 1); mean(1); pool(0, 1)").finds(BEYOND, "lay(0, 1, 1)")
            .state("swap(0, 1, 0, 0); late(0, 1, 0, 0, 0, 0)");
        run.after("trailer(0, 0, 0)").finds(UNLIKE, "limit(0, 0)").state("theft(0); hands(0); look(0, 0, 0)")
            .due("asked()", 44);
    }

    // ---- promises 54 and 55

    private static void upperBefore() {
        Run.promise(54, "0 before").due("upper()", 0).bad("weight(0, true)").due("upper()", 0);
    }

    private static void lowerBefore() {
        Run.promise(55, "1 before").due("lower()", 1).bad("weight(0, true)").due("lower()", 1);
    }

    private static void fractionToldLast() {
        Run run = Run.promise(54, "of the fraction that was told last")
            .after("trailer(0, 0, 0); trailer(0, 0, 0); load(0, 1, 101); weight(0, true)");
        run.due("upper()", -1).due("lower()", 100).bad("weight(2, true); weight(-1, false)").due("upper()", -1)
            .due("lower()", 100);
        run.row(0, 5, 6).after("mean(0); unload(0); lawful(0)").due("upper()", -1).due("lower()", 100)
            .after("weight(1, false)");
        run.due("upper()", 0).due("lower()", 1);
    }

    // ---- promise 56

    private static void countOfEach() {
        Run run = Run.promise(56, "0 NOW, 1 TRAILERS, 2 LOST ones, 3 WAYS, 4 TERMS, 5 entries of THE BOOK, 6 ROWS, 7 TEXTS");
        for (int what = 0; what <= 7; what++) {
            run.due("count(" + what + ")", 0);
        }
        run.after("later(99999)").times(4, "trailer(0, 0, 0)")
            .after("lose(1); lose(3); way(0, 1, 1, 0); way(1, 0, 2, 0); way(6, 7, 1, 0); way(0, 7, 1, 0)");
        run.after("text(3, 0); terms(3, 0); text(0, 1); row(5, 0); row(0, 1); row(0, 2); row(2, 2); row(3, 3)");
        int[] want = {99999, 4, 2, 3, 1, 6, 4, 2};
        for (int what = 0; what <= 7; what++) {
            run.due("count(" + what + ")", want[what]);
        }
    }

    private static void countOfWhatIsThere() {
        Run run = Run.promise(56, "7 TEXTS that are there")
            .after("row(0, 0); row(1, 1); text(0, 0); trailer(0, 0, 0); lose(0)");
        run.due("count(6)", 2).due("count(7)", 1).due("count(2)", 1).after("tear(0); find(0, 0)").due("count(6)", 1)
            .due("count(2)", 0);
        run.due("count(5)", 3).due("count(1)", 1).after("tear(1)").due("count(6)", 0).due("count(7)", 1);
    }

    private static void countBad() {
        Run.promise(56, "BAD").bad("count(-1); count(8); count(LEAST); count(MOST)");
    }

    // ---- promises 57 and 58

    private static void findingBefore() {
        Run run = Run.promise(57, "(0 before any)").due("finding()", 0).bad("row(6, 0)").state("drop(0)")
            .due("finding()", 0);
        for (int f = 1; f <= 5; f++) {
            run.due("findings(" + f + ")", 0);
        }
    }

    private static void findingLatest() {
        Run run = Run.promise(57, "The latest FINDING").finds(NOTHING, "tear(0)").finds(SIZE, "row(0, -1)")
            .after("row(0, 0)").due("finding()", SIZE);
        run.bad("row(6, 0)").due("finding()", SIZE).finds(NOUGHT, "mean(0)").state("drop(0)").due("finding()", NOUGHT);
        run.finds(BEYOND, "lay(0, 0, 0)").after("trailer(0, 0, 0)").finds(UNLIKE, "limit(0, 0)")
            .finds(NOTHING, "tear(1)").due("finding()", NOTHING);
    }

    private static void findingsHowOften() {
        Run run = Run.promise(58, "How often a FINDING (1 .. 5) was answered")
            .finds(NOTHING, "tear(0); tear(1); fault(0)").after("row(0, 0)");
        run.finds(SIZE, "row(0, -1); text(0, -1)").finds(BEYOND, "lay(0, 0, 0)").finds(NOUGHT, "mean(0)")
            .finds(NOUGHT, "mean(0); mean(0)");
        run.after("trailer(0, 0, 0)").finds(UNLIKE, "limit(0, 0); mark(0, 1); mark(0, 2); mark(0, 3)")
            .finds(NOTHING, "tear(3)");
        int[] want = {4, 1, 4, 3, 2};
        for (int f = 1; f <= 5; f++) {
            run.due("findings(" + f + ")", want[f - 1]);
        }
    }

    private static void findingsBad() {
        Run.promise(58, "BAD").finds(NOTHING, "tear(0)")
            .bad("findings(0); findings(6); findings(-1); findings(LEAST); findings(MOST)");
    }

    // ---- promise 59

    /** The values of a digest, in the order in which the document names them; those of a new object at first. */
    private static final class Values {
        private final int[] counts = new int[8];
        private final int[] ways = new int[4 * 28];
        private final List<int[]> trailers = new ArrayList<>();
        private final int[][] tractors = new int[6][];
        private final List<int[]> entries = new ArrayList<>();
        private final List<int[]> terms = new ArrayList<>();
        private final int[] law = {20000, 20000};
        private final int[][] rows = new int[6][];
        private final int[][] texts = new int[4][];
        private long h = 17;

        private Values() {
            for (int k = 0; k < 6; k++) {
                tractors[k] = new int[] {0, 0, NONE, 0, 0};
            }
        }

        private void add(int... values) {
            for (int v : values) {
                h = 31 * h + v;
            }
        }

        private void addLines(int[][] lines) {
            for (int[] line : lines) {
                add(line == null ? -1 : line.length);
                add(line == null ? new int[0] : line);
            }
        }

        private long digest() {
            h = 17;
            add(counts);
            add(ways);
            trailers.forEach(this::add);
            for (int[] k : tractors) {
                add(k);
            }
            entries.forEach(this::add);
            terms.forEach(this::add);
            add(law);
            addLines(rows);
            addLines(texts);
            return h;
        }
    }

    private static void digestOfNew() {
        Run.promise(59, "h = 17; then h = 31 h + v for each v").due("digest()", new Values().digest());
    }

    private static void digestOfWays() {
        Run run = Run.promise(59, "minutes (0: no WAY), TOLL, E (0: no FERRY), F (all four 0 without a WAY)");
        Values v = new Values();
        run.after("way(1, 0, 600, 999); way(7, 6, 1, 0); ferry(6, 7, 1440, 1439); way(0, 7, 5, 6)");
        v.counts[3] = 3;
        int[][] at = {{0, 600, 999, 0, 0}, {6, 5, 6, 0, 0}, {27, 1, 0, 1440, 1439}};
        for (int[] w : at) {
            System.arraycopy(w, 1, v.ways, 4 * w[0], 4);
        }
        run.due("digest()", v.digest()).after("way(6, 7, 1, 0)");
        v.ways[4 * 27 + 2] = 0;
        v.ways[4 * 27 + 3] = 0;
        run.due("digest()", v.digest());
    }

    private static void digestOfRowsAndTexts() {
        Run run = Run.promise(59, "of each ROW its size (-1: missing) and places, of each TEXT likewise").row(0)
            .row(5, Integer.MAX_VALUE, Integer.MIN_VALUE);
        Values v = new Values();
        v.rows[0] = new int[0];
        v.rows[5] = new int[] {Integer.MAX_VALUE, Integer.MIN_VALUE};
        v.texts[0] = new int[] {32, -128, 127};
        v.texts[3] = new int[0];
        v.counts[6] = 2;
        v.counts[7] = 2;
        run.after("text(0, 3); put(0, 1, 128); put(0, 2, 127); text(3, 0)").due("digest()", v.digest())
            .after("row(1, 40); tear(0)");
        v.rows[1] = new int[40];
        v.rows[0] = null;
        run.due("digest()", v.digest());
    }

    private static void digestOfTrailersAndTractors() {
        Run run = Run.promise(59, "of each TRAILER told() 0 to 7; of each TRACTOR tractor() 0 to 4");
        Values v = new Values();
        run.after("later(1440); trailer(3, 7, 100000); trailer(0, 0, 0); park(5, 7); hitch(5, 0); slide(0, 120)")
            .after("load(0, 1, 1); lose(1)");
        run.after("way(7, 6, 9, 0); go(5, 6)");
        v.counts[0] = 1440;
        v.counts[1] = 2;
        v.counts[2] = 1;
        v.counts[3] = 1;
        v.counts[5] = 4;
        v.ways[4 * 27] = 9;
        v.trailers.add(new int[] {3, NONE, 5, 0, 100000, 120, 1, 0});
        v.trailers.add(new int[] {0, NONE, NONE, 1, 0, 100, 0, 0});
        v.tractors[5] = new int[] {6, 1449, 0, 9, 9};
        v.entries.add(new int[] {0, 0, 1440, 7});
        v.entries.add(new int[] {1, 0, 1440, 0});
        v.entries.add(new int[] {0, 1, 1440, 5});
        v.entries.add(new int[] {1, 2, 1440, NONE});
        run.due("digest()", v.digest()).after("load(0, 1, 1)");
        v.trailers.get(0)[6] = 2;
        run.due("digest()", v.digest());
    }

    private static void digestOfTheBook() {
        Run run = Run.promise(59, "(in the order told) TRAILER, sort, minute, what book() tells as 2");
        Values v = new Values();
        run.after("trailer(0, 0, 0); later(7)");
        v.counts[1] = 1;
        v.trailers.add(new int[] {0, 0, NONE, 0, 0, 100, 0, 0});
        v.entries.add(new int[] {0, 0, 0, 0});
        for (int i = 0; i < 29; i++) {
            run.after("seal(0, 3); later(1); seal(0, 5)");
            v.entries.add(new int[] {0, 3, 7 + i, NONE});
            v.entries.add(new int[] {0, 5, 8 + i, NONE});
        }
        run.after("seal(0, 3)").full("seal(0, 4)");
        v.entries.add(new int[] {0, 3, 36, NONE});
        v.trailers.get(0)[7] = 1;
        v.counts[0] = 36;
        v.counts[5] = 60;
        run.due("digest()", v.digest());
    }

    private static void digestOfTerms() {
        Run run = Run.promise(59, "of each TERMS the DAY on which they were told, from")
            .after("text(0, 0); terms(0, 69); later(1439); terms(0, 0)");
        Values v = new Values();
        run.after("later(1); terms(0, 5); later(98559); terms(0, 7)");
        v.counts[0] = 99999;
        v.counts[4] = 4;
        v.counts[7] = 1;
        v.texts[0] = new int[0];
        int[][] told = {{0, 69}, {0, 0}, {1, 5}, {69, 7}};
        v.terms.addAll(List.of(told));
        run.due("digest()", v.digest());
    }

    private static void digestOfLaw() {
        Values v = new Values();
        v.law[0] = 0;
        v.law[1] = 100000;
        Run.promise(59, "MA, MK").after("law(0, 100000)").due("digest()", v.digest());
    }

    private static void digestChangesNothing() {
        Run run = Run.promise(59, "`long digest()`").row(0, 5).asks("lay(0, 0, 6)", 5).finds(SIZE, "row(0, -1)")
            .after("text(0, 1)");
        TrailerYards x = new TrailerYards();
        x.row(0, 1);
        long first = x.digest();
        Check.due("digest again", x.digest(), first);
        Check.due("asked", x.asked(), 0);
        Values v = new Values();
        v.counts[6] = 1;
        v.counts[7] = 1;
        v.rows[0] = new int[] {6};
        v.texts[0] = new int[] {32};
        run.due("digest()", v.digest()).due("digest()", v.digest()).due("asked()", 5).due("finding()", SIZE)
            .due("findings(5)", 1);
    }
}
