import java.util.Arrays;

/** The boundary cases of promises 32 to 42 and of the terms' part 4: loads, cold ones, thefts. */
public final class Bounds4LoadsColdTheftsTest {
    private static final int NONE = -9, NOTHING = 1, UNLIKE = 3, NOUGHT = 4, GAP = -999;

    public static void main(String[] args) {
        law();
        load();
        unload();
        slide();
        weight();
        lawful();
        shift();
        cold();
        mean();
        theft();
        hands();
        Check.end();
    }

    private static void law() {
        lawBounds();
        lawOfEach();
    }

    private static void load() {
        loadBounds();
        loadBad();
        loadFull();
    }

    private static void unload() {
        unloadAll();
        unloadBad();
    }

    private static void slide() {
        slideBounds();
        slideBad();
    }

    private static void weight() {
        weightInLowestTerms();
        weightNought();
        weightBelowNought();
        weightGreatest();
        weightBad();
    }

    private static void lawful() {
        lawfulEmpty();
        lawfulAxle();
        lawfulKingpin();
        lawfulNotLessThanNought();
        lawfulBad();
    }

    private static void shift() {
        shiftWhereItIs();
        shiftNearest();
        shiftToTheEnds();
        shiftNone();
        shiftBad();
    }

    private static void cold() {
        coldAbove();
        coldGaps();
        coldMost();
        coldWorst();
        coldEmptyAndWhole();
        coldBad();
        coldUnlike();
        coldNothing();
    }

    private static void mean() {
        meanCut();
        meanWithoutGaps();
        meanWithoutWrap();
        meanBad();
        meanNothing();
        meanNought();
    }

    private static void theft() {
        theftLatest();
        theftOfNoMinutes();
        theftState();
        theftBad();
    }

    private static void hands() {
        handsAsItWasTold();
        handsByTheOrderOfEntries();
        handsOfAll();
        handsState();
        handsBad();
    }

    private static Run withTrailer(Run run) {
        return run.after("trailer(0, 0, 0)");
    }

    // ---- promise 32

    private static void lawBounds() {
        Run run = Run.promise(32, "MA, MK (0 .. 100000 each): 1. BAD.").after("trailer(0, 0, 0)");
        run.bad("law(-1, 0); law(0, -1); law(100001, 0); law(0, 100001); law(LEAST, 0); law(0, LEAST); law(MOST, 0)")
            .bad("law(0, MOST)");
        run.each("law(0, 0); law(100000, 100000); law(0, 100000); law(100000, 0)", 1);
    }

    private static void lawOfEach() {
        Run run = withTrailer(Run.promise(32, "MA, MK (0 .. 100000 each)")).after("load(0, 300, 50)")
            .due("law(150, 150)", 1);
        run.due("lawful(0)", 1).after("law(149, 100000)").due("lawful(0)", 0).after("law(100000, 149)")
            .due("lawful(0)", 0);
        run.times(5, "load(0, 20000, 100)").after("slide(0, 100); law(100000, 100000)").due("lawful(0)", 0)
            .after("unload(0)");
        run.times(5, "load(0, 20000, 100)").due("lawful(0)", 1).after("law(99999, 0)").due("lawful(0)", 0);
        run.after("unload(0)").times(5, "load(0, 20000, 0)").due("lawful(0)", 0).after("law(0, 100000)")
            .due("lawful(0)", 1);
    }

    // ---- promise 33

    private static void loadBounds() {
        Run run = withTrailer(Run.terms("weight w (1 .. 20000) at a place p (0 .. 130)"));
        run.due("load(0, 1, 0)", 1).due("load(0, 20000, 130)", 2).due("load(0, 1, 130)", 3).due("load(0, 20000, 0)", 4);
        run.bad("load(0, 0, 0); load(0, 20001, 0); load(0, 1, -1); load(0, 1, 131)");
        run.after("weight(0, false)").due("upper()", 2600130 / 10).due("lower()", 10);
    }

    private static void loadBad() {
        Run run = Run.promise(33, "BAD; FULL").bad("load(0, 1, 0)").after("trailer(0, 0, 0)")
            .bad("load(1, 1, 0); load(-1, 1, 0)");
        run.bad("load(0, -1, 0); load(0, LEAST, 0); load(0, MOST, 0); load(0, 1, LEAST); load(0, 1, MOST)");
        run.times(6, "load(0, 1, 0)")
            .bad("load(0, 0, 0); load(0, 20001, 0); load(0, 1, 131); load(0, 1, -1); load(1, 1, 0)");
    }

    private static void loadFull() {
        Run run = withTrailer(Run.terms("LOADS (6 at most)")).times(5, "load(0, 20000, 130)")
            .due("load(0, 20000, 130)", 6);
        run.full("load(0, 1, 0); load(0, 20000, 130)").asks("told(0, 6)", 6).after("trailer(0, 0, 0)")
            .due("load(1, 1, 0)", 1);
        run.after("unload(0)").due("load(0, 1, 0)", 1);
    }

    // ---- promise 34

    private static void unloadAll() {
        Run run = withTrailer(Run.promise(34, "All LOADS go: how many there were.")).due("unload(0)", 0)
            .times(6, "load(0, 9, 9)");
        run.due("unload(0)", 6).asks("told(0, 6)", 0).after("weight(0, true)").due("upper()", 0).due("lower()", 1);
        run.due("unload(0)", 0).after("load(0, 3, 100); weight(0, false)").due("upper()", 3);
    }

    private static void unloadBad() {
        Run run = Run.promise(34, "BAD").bad("unload(0)").after("trailer(0, 0, 0)")
            .bad("unload(1); unload(-1); unload(LEAST); unload(MOST)");
    }

    // ---- promise 35

    private static void slideBounds() {
        Run run = withTrailer(Run.terms("its AXLE at A (60 .. 120; 100 at first)")).asks("told(0, 5)", 100)
            .due("slide(0, 60)", 100);
        run.due("slide(0, 120)", 60).due("slide(0, 120)", 120).bad("slide(0, 59); slide(0, 121)")
            .asks("told(0, 5)", 120);
    }

    private static void slideBad() {
        Run run = Run.promise(35, "BAD").bad("slide(0, 60)").after("trailer(0, 0, 0)")
            .bad("slide(1, 60); slide(-1, 60)");
        run.bad("slide(0, 0); slide(0, -1); slide(0, LEAST); slide(0, MOST)").due("slide(0, 100)", 100);
    }

    // ---- promise 36

    private static void expectWeight(Run run, boolean kingpin, long upper, long lower) {
        run.due("weight(0, " + kingpin + ")", 1).due("upper()", upper).due("lower()", lower);
    }

    private static void weightInLowestTerms() {
        Run run = withTrailer(Run.terms("in lowest terms")).after("load(0, 7, 30)");
        expectWeight(run, false, 21, 10);
        expectWeight(run, true, 49, 10);
        run.after("slide(0, 63)");
        expectWeight(run, false, 10, 3);
        expectWeight(run, true, 11, 3);
        run.after("unload(0); slide(0, 97); load(0, 1, 1)");
        expectWeight(run, false, 1, 97);
        expectWeight(run, true, 96, 97);
    }

    private static void weightNought() {
        Run run = withTrailer(Run.terms("the lower number above 0 (0 by 1)"));
        expectWeight(run, false, 0, 1);
        expectWeight(run, true, 0, 1);
        run.after("load(0, 5, 0)");
        expectWeight(run, false, 0, 1);
        expectWeight(run, true, 5, 1);
        run.after("unload(0); load(0, 5, 100)");
        expectWeight(run, true, 0, 1);
        expectWeight(run, false, 5, 1);
    }

    private static void weightBelowNought() {
        Run run = withTrailer(Run.terms("(fractions; below 0 may be)")).after("load(0, 5, 130)");
        expectWeight(run, true, -3, 2);
        expectWeight(run, false, 13, 2);
        run.after("slide(0, 60); unload(0); load(0, 1, 61)");
        expectWeight(run, true, -1, 60);
    }

    private static void weightGreatest() {
        Run run = withTrailer(Run.promise(36, "told by upper(), lower(): 1")).times(6, "load(0, 20000, 130)")
            .after("slide(0, 60)");
        expectWeight(run, false, 260000, 1);
        expectWeight(run, true, -140000, 1);
        run.after("slide(0, 119)");
        expectWeight(run, false, 15600000, 119);
        expectWeight(run, true, -1320000, 119);
    }

    private static void weightBad() {
        Run run = Run.promise(36, "BAD").bad("weight(0, false); weight(0, true)")
            .after("trailer(0, 0, 0); load(0, 1, 1); weight(0, false)");
        run.bad("weight(1, false); weight(1, true); weight(-1, true); weight(LEAST, false); weight(MOST, true)");
        run.due("upper()", 1).due("lower()", 100);
    }

    // ---- promise 37

    private static void lawfulEmpty() {
        withTrailer(Run.promise(37, "Whether a TRAILER is LAWFUL: 1, 0.")).after("law(0, 0)").due("lawful(0)", 1)
            .due("shift(0)", 100);
    }

    private static void lawfulAxle() {
        Run run = withTrailer(Run.terms("if the AXLE has no more than MA"))
            .after("load(0, 60, 10); slide(0, 60); law(10, 1000)");
        run.due("lawful(0)", 1).after("law(9, 1000)").due("lawful(0)", 0).after("load(0, 1, 1); law(10, 1000)")
            .due("lawful(0)", 0);
        run.after("law(11, 1000)").due("lawful(0)", 1).after("unload(0); law(0, 1000)").due("lawful(0)", 1)
            .after("load(0, 1, 1)");
        run.due("lawful(0)", 0);
    }

    private static void lawfulKingpin() {
        Run run = withTrailer(Run.terms("the KINGPIN no more than MK"))
            .after("load(0, 60, 10); slide(0, 60); law(1000, 50)");
        run.due("lawful(0)", 1).after("law(1000, 49)").due("lawful(0)", 0).after("load(0, 1, 59); law(1000, 50)")
            .due("lawful(0)", 0);
        run.after("law(1000, 51)").due("lawful(0)", 1).after("unload(0); load(0, 9, 60); law(1000, 0)")
            .due("lawful(0)", 1);
        run.after("load(0, 1, 59)").due("lawful(0)", 0);
    }

    private static void lawfulNotLessThanNought() {
        Run run = withTrailer(Run.terms("and not less than 0")).after("load(0, 100, 100)").due("lawful(0)", 1)
            .after("load(0, 1, 101)");
        run.due("lawful(0)", 0).after("slide(0, 101)").due("lawful(0)", 1).after("slide(0, 99)").due("lawful(0)", 0);
    }

    private static void lawfulBad() {
        Run run = Run.promise(37, "BAD").bad("lawful(0)").after("trailer(0, 0, 0)")
            .bad("lawful(1); lawful(-1); lawful(LEAST); lawful(MOST)");
    }

    // ---- promise 38

    private static void shiftWhereItIs() {
        Run run = withTrailer(Run.terms("the A' of 60 to 120 nearest to A with which it is LAWFUL"));
        for (int a : new int[] {60, 61, 100, 119, 120}) {
            run.after("slide(0, " + a + ")").due("shift(0)", a).asks("told(0, 5)", a);
        }
    }

    private static void shiftNearest() {
        Run run = withTrailer(Run.terms("nearest to A")).after("load(0, 10, 90)");
        run.each("shift(0)", 100).after("slide(0, 60)").due("shift(0)", 90).after("slide(0, 89)").due("shift(0)", 90);
        run.after("law(20000, 1); slide(0, 120)").due("shift(0)", 100).after("slide(0, 101)").due("shift(0)", 100);
        run.after("law(9, 1); slide(0, 120)").due("shift(0)", 100).after("slide(0, 60)").due("shift(0)", 100);
        run.after("law(9, 0)").due("shift(0)", NONE).after("law(10, 1); slide(0, 95)").due("shift(0)", 95);
    }

    private static void shiftToTheEnds() {
        Run run = withTrailer(Run.terms("SHIFT: the A' of 60 to 120")).after("load(0, 10, 120)").due("shift(0)", 120);
        run.after("slide(0, 60)").due("shift(0)", 120).after("unload(0); load(0, 10, 121)").due("shift(0)", NONE);
        run.after("unload(0); load(0, 10, 30); slide(0, 120); law(5, 5)").due("shift(0)", 60).after("slide(0, 60)")
            .due("shift(0)", 60);
        run.after("slide(0, 120); law(5, 4)").due("shift(0)", NONE).after("slide(0, 100); law(6, 4)")
            .due("shift(0)", NONE);
        run.after("unload(0); load(0, 10, 121); law(20000, 20000)").due("shift(0)", NONE).after("slide(0, 120)")
            .due("shift(0)", NONE);
        run.after("slide(0, 61)").due("shift(0)", NONE).after("load(0, 10, 119)").due("shift(0)", 120);
        // One load and nothing allowed on the kingpin: lawful just with the axle under the load.
        run.after("law(20000, 0); unload(0); load(0, 1, 59); slide(0, 100)").due("shift(0)", NONE);
        run.after("unload(0); load(0, 1, 60)").due("shift(0)", 60).after("unload(0); load(0, 1, 120)")
            .due("shift(0)", 120);
        run.after("unload(0); load(0, 1, 121)").due("shift(0)", NONE);
    }

    private static void shiftNone() {
        Run run = withTrailer(Run.promise(38, "NONE: none")).after("law(0, 0); load(0, 1, 0)").due("shift(0)", NONE)
            .after("law(0, 1)");
        run.due("shift(0)", 100);
    }

    private static void shiftBad() {
        Run run = Run.promise(38, "BAD").bad("shift(0)").after("trailer(0, 0, 0)")
            .bad("shift(1); shift(-1); shift(LEAST); shift(MOST)");
    }

    // ---- promise 39

    private static void expectCold(Run run, int t, int least, int most, int worst) {
        run.due("cold(" + t + ", 0, 0)", least).due("cold(" + t + ", 0, 1)", most).due("cold(" + t + ", 0, 2)", worst);
    }

    private static void coldAbove() {
        Run run = Run.terms("LEAST beyond a limit: readings above it").after("trailer(1, 0, 0); trailer(3, 0, 0)")
            .row(0, 5);
        expectCold(run, 0, 0, 0, 0);
        expectCold(run.row(0, 6), 0, 10, 10, 10);
        expectCold(run.row(0, -18), 1, 0, 0, 0);
        expectCold(run.row(0, -17), 1, 10, 10, 10);
        expectCold(run.row(0, Integer.MAX_VALUE, Integer.MIN_VALUE), 0, 10, 10, 10);
        expectCold(run.after("limit(0, -50)").row(0, -50, -49, -51), 0, 10, 10, 10);
    }

    private static void coldGaps() {
        Run run = Run.terms("one each ten minutes; -999: a gap").after("trailer(1, 0, 0)").row(0, GAP);
        expectCold(run, 0, 0, 10, 10);
        expectCold(run.row(0, -998, -1000), 0, 0, 0, 0);
        expectCold(run.row(0, GAP, 6, GAP), 0, 10, 30, 30);
    }

    private static void coldMost() {
        Run run = Run.terms("MOST: gaps, too.").after("trailer(1, 0, 0)").row(0, 6, GAP, 5, GAP, 7);
        run.due("cold(0, 0, 1)", 40).due("cold(0, 0, 0)", 20).row(0, 5, -50).due("cold(0, 0, 1)", 0);
        run.row(0, GAP, GAP).due("cold(0, 0, 1)", 20).due("cold(0, 0, 0)", 0);
    }

    private static void coldWorst() {
        Run run = Run.terms("WORST: the longest row of readings one behind the other that are above it, or gaps.")
            .after("trailer(1, 0, 0)");
        expectCold(run.row(0, 6, 5, 6, GAP, 4, 9, 9), 0, 40, 50, 20);
        expectCold(run.row(0, GAP, 6, GAP, 5, 6, 6), 0, 30, 50, 30);
        expectCold(run.row(0, 5, 6, 6, 6), 0, 30, 30, 30);
        expectCold(run.row(0, 6, 5, 6, 5, 6), 0, 30, 30, 10);
    }

    private static void coldEmptyAndWhole() {
        Run run = Run.promise(39, "in minutes (ten for each)").after("trailer(1, 0, 0); row(0, 0)");
        expectCold(run, 0, 0, 0, 0);
        int[] warm = new int[40];
        Arrays.fill(warm, 6);
        expectCold(run.row(0, warm), 0, 400, 400, 400);
        Arrays.fill(warm, GAP);
        expectCold(run.row(0, warm), 0, 0, 400, 400);
    }

    private static void coldBad() {
        Run run = Run.promise(39, "BAD; UNLIKE; NOTHING").after("trailer(1, 0, 0); trailer(0, 0, 0); row(0, 1)");
        run.bad("cold(0, 0, -1); cold(0, 0, 3); cold(0, 0, LEAST); cold(0, 0, MOST); cold(0, -1, 0); cold(0, 6, 0)");
        run.bad("cold(2, 0, 0); cold(-1, 0, 0); cold(1, 0, 3); cold(1, 6, 0); cold(0, 1, 3)");
    }

    private static void coldUnlike() {
        Run run = Run.promise(39, "(UNLIKE ahead of NOTHING.)").after("trailer(0, 0, 0); trailer(2, 0, 0)").row(0, 1);
        run.finds(UNLIKE, "cold(0, 0, 0); cold(1, 0, 1); cold(0, 1, 2); cold(1, 5, 0)");
    }

    private static void coldNothing() {
        Run run = Run.promise(39, "NOTHING").after("trailer(1, 0, 0); trailer(3, 0, 0)")
            .finds(NOTHING, "cold(0, 0, 0); cold(1, 5, 2)");
        run.row(5, 1).after("tear(5)").finds(NOTHING, "cold(1, 5, 1)").due("mark(1, 3)", 0);
    }

    // ---- promise 40

    private static void meanCut() {
        Run run = Run.promise(40, "cut, told by asked(): 1").row(0, 2, 3).tells("mean(0)", 1, 2).row(0, 5)
            .tells("mean(0)", 1, 5);
        run.row(0, -2, -3).tells("mean(0)", 1, -2).row(0, 1, 1, 0).tells("mean(0)", 1, 0).row(0, -1, 0)
            .tells("mean(0)", 1, 0);
        run.row(0, 0).tells("mean(0)", 1, 0);
    }

    private static void meanWithoutGaps() {
        Run run = Run.promise(40, "that are no gaps (-999)").row(0, GAP, 7, GAP, 9).tells("mean(0)", 1, 8);
        run.row(0, -998, -1000).tells("mean(0)", 1, -999).row(0, GAP, -998).tells("mean(0)", 1, -998);
    }

    private static void meanWithoutWrap() {
        int[] places = new int[40];
        Arrays.fill(places, Integer.MAX_VALUE);
        Run run = Run.promise(40, "The mean of a ROW's places").row(0, places).tells("mean(0)", 1, Integer.MAX_VALUE);
        Arrays.fill(places, Integer.MIN_VALUE);
        run.row(0, places).tells("mean(0)", 1, Integer.MIN_VALUE);
        run.row(0, Integer.MAX_VALUE, Integer.MIN_VALUE).tells("mean(0)", 1, 0);
    }

    private static void meanBad() {
        Run.promise(40, "BAD").row(0, 1).bad("mean(-1); mean(6); mean(LEAST); mean(MOST)");
    }

    private static void meanNothing() {
        Run.promise(40, "NOTHING").finds(NOTHING, "mean(0); mean(5)").row(0, 4).after("tear(0)")
            .finds(NOTHING, "mean(0)");
    }

    private static void meanNought() {
        Run run = Run.promise(40, "NOUGHT").after("row(0, 0)").finds(NOUGHT, "mean(0)").row(0, GAP, GAP)
            .finds(NOUGHT, "mean(0)");
        run.row(0, GAP, 1).tells("mean(0)", 1, 1);
    }

    // ---- promise 41

    private static void theftLatest() {
        Run run = withTrailer(Run.terms("(the latest entry 5): from the latest entry 3 or 4 ahead of it till then"));
        run.after("later(1); seal(0, 3); later(2); seal(0, 5)").tells("theft(0)", 2, 1);
        run.after("later(4); seal(0, 3); later(8); seal(0, 4)").tells("theft(0)", 2, 1);
        run.after("later(16); seal(0, 5); later(32)").tells("theft(0)", 16, 15);
        run.after("seal(0, 3); seal(0, 4)").tells("theft(0)", 16, 15).after("later(64); seal(0, 5)")
            .tells("theft(0)", 64, 63);
        run.after("seal(0, 3); trailer(0, 0, 0); seal(1, 3); later(1); seal(1, 5)").tells("theft(0)", 64, 63);
        run.tells("theft(1)", 1, 127);
    }

    private static void theftOfNoMinutes() {
        Run run = withTrailer(Run.promise(41, "minutes of the span; from which minute on by asked()"));
        run.after("later(99999); seal(0, 3); seal(0, 5)").tells("theft(0)", 0, 99999);
        withTrailer(run.anew()).after("seal(0, 3); later(99999); seal(0, 5)").tells("theft(0)", 99999, 0);
    }

    private static void theftState() {
        Run run = withTrailer(Run.promise(41, "STATE: it was never found broken"))
            .after("park(1, 2); row(0, 1); tractor(1, 0)");
        run.state("theft(0)").after("seal(0, 3)").state("theft(0)").after("seal(0, 4)").state("theft(0)");
        run.after("trailer(0, 0, 0); seal(0, 5)").tells("theft(0)", 0, 0).state("theft(1)");
    }

    private static void theftBad() {
        Run run = Run.promise(41, "(BAD ahead.)").bad("theft(0)").after("trailer(0, 0, 0)")
            .bad("theft(1); theft(-1); theft(LEAST); theft(MOST)");
    }

    // ---- promise 42

    private static void handsAsItWasTold() {
        Run run = withTrailer(Run.terms("It was in the HANDS of that YARD or TRACTOR that had it as that entry 3 or 4 was told"));
        run.after("seal(0, 3); seal(0, 5)").tells("hands(0)", 1, 1).after("hitch(5, 0); seal(0, 3); seal(0, 5)");
        run.tells("hands(0)", 1, 1 << 13).after("park(5, 7); drop(5); seal(0, 3); seal(0, 4); seal(0, 5)")
            .tells("hands(0)", 1, 128);
    }

    private static void handsByTheOrderOfEntries() {
        Run run = withTrailer(Run.terms("and of all that got it behind that, ahead of the entry 5 (by the order of entries)"));
        run.after("hitch(0, 0); seal(0, 3); drop(0); seal(0, 5); hitch(1, 0)").tells("hands(0)", 2, 1 << 8 | 1);
        run.after("drop(1); hitch(2, 0); drop(2); seal(0, 3); hitch(3, 0); seal(0, 5); drop(3)")
            .tells("hands(0)", 2, 1 << 11 | 1);
        run.after("seal(0, 3); hitch(3, 0); drop(3); seal(0, 4); hitch(4, 0); seal(0, 5)")
            .tells("hands(0)", 2, 1 << 12 | 1);
    }

    private static void handsOfAll() {
        Run run = withTrailer(Run.promise(42, "(bits 0 to 7 YARDS, 8 to 13 TRACTORS)"))
            .after("seal(0, 3); hitch(0, 0)");
        for (int k = 0; k < 6; k++) {
            run.after("park(" + k + ", " + (k + 1) + "); drop(" + k + ")");
            run.after(k < 5 ? "park(" + (k + 1) + ", " + (k + 1) + "); hitch(" + (k + 1) + ", 0)" : "lose(0); find(0, 7)");
        }
        run.after("trailer(0, 0, 0); seal(0, 5)").tells("hands(0)", 14, (1 << 14) - 1).state("hands(1)");
    }

    private static void handsState() {
        Run run = withTrailer(Run.promise(42, "BAD; STATE")).state("hands(0)").after("seal(0, 3)").state("hands(0)")
            .after("seal(0, 4)");
        run.state("hands(0)").after("seal(0, 5)").tells("hands(0)", 1, 1).after("seal(0, 3)").tells("hands(0)", 1, 1);
    }

    private static void handsBad() {
        Run run = Run.promise(42, "BAD").bad("hands(0)").after("trailer(0, 0, 0)")
            .bad("hands(1); hands(-1); hands(LEAST); hands(MOST)");
    }
}
