/** The boundary cases of promises 14 to 27 and of the terms' part 2: trailers, tractors, THE BOOK. */
public final class Bounds2TrailersTractorsTest {
    private static final int NONE = -9, NOTHING = 1, UNLIKE = 3;

    public static void main(String[] args) {
        terms();
        trailer();
        told();
        mark();
        limit();
        park();
        hitch();
        drop();
        go();
        hours();
        tractor();
        lose();
        find();
        seal();
        book();
        where();
        Check.end();
    }

    private static void terms() {
        tractorsAreNumbered();
        thereFromThatMinuteOn();
        twelveAtMostEver();
        kinds();
        worths();
        oneTrailerAtMost();
        sixtyEntries();
    }

    private static void trailer() {
        trailerBad();
        trailerFull();
        trailerFullBook();
    }

    private static void told() {
        toldNone();
        toldBad();
    }

    private static void mark() {
        markOfTheKind();
        markDays();
        markLooks();
        markBad();
        markUnlike();
    }

    private static void limit() {
        limitAtFirst();
        limitBad();
        limitUnlike();
    }

    private static void park() {
        parkHasRested();
        parkHitchedComesAlong();
        parkBad();
        parkState();
    }

    private static void hitch() {
        hitchBad();
        hitchOnTheWay();
        hitchHasOne();
        hitchNotInItsYard();
        hitchFull();
    }

    private static void drop() {
        dropBad();
        dropState();
        dropFull();
    }

    private static void go() {
        goBad();
        goItsOwnYard();
        goOnTheWay();
        goNothing();
        goBeyondTheLastMinute();
    }

    private static void hours() {
        hoursToTheLast();
        restToTheLast();
        restOneBehindTheOther();
        hoursWithFerries();
        hoursOfTheDay();
        hoursOfNone();
    }

    private static void tractor() {
        tractorOnTheWay();
        tractorSinceItsRest();
        tractorBad();
    }

    private static void lose() {
        loseOutOfAYard();
        loseFromItsTractor();
        loseBad();
        loseState();
        loseFull();
    }

    private static void find() {
        findBad();
        findState();
        findFull();
    }

    private static void seal() {
        sealBad();
        sealLost();
        sealSealed();
        sealFull();
    }

    private static void book() {
        bookNone();
        bookNoneSuch();
        bookBad();
    }

    private static void where() {
        whereWasItNotYet();
        whereBehindAllEntries();
        whereBad();
    }

    /** All 60 entries, of trailer 0 alone; it stands in yard 0, and is sealed. */
    private static Run fullBook(Run run) {
        run.after("trailer(0, 0, 5)").times(29, "seal(0, 3); seal(0, 5)").after("seal(0, 3)");
        return run.due("count(5)", 60);
    }

    // ---- terms, part 2

    private static void tractorsAreNumbered() {
        Run run = Run.terms("TRACTORS 0 .. 5 are each in a YARD (0 at first)").after("trailer(0, 0, 0); row(0, 6)");
        for (int k = 0; k <= 5; k++) {
            run.asks("tractor(" + k + ", 0)", 0);
        }
        String[] outside = {"-1", "6", "LEAST", "MOST"};
        run.badWith(outside, "park(#, 0); hitch(#, 0); drop(#); go(#, 1); tractor(#, 0)");
        run.badWith(outside, "swap(#, 0, 0, 0); swap(0, #, 0, 0); partner(#)");
        run.badWith(outside, "late(#, 0, 0, 0, 0, 0); late(0, #, 0, 0, 0, 0)");
        run.due("park(5, 7)", 1).asks("tractor(5, 0)", 7).due("partner(5)", NONE).due("hitch(0, 0)", 1);
    }

    private static void thereFromThatMinuteOn() {
        Run run = Run.terms("or on the way to one till a minute (it is there from that minute on)");
        run.after("way(0, 1, 10, 0); trailer(0, 0, 0); trailer(0, 1, 0); hitch(0, 0)").due("go(0, 1)", 10);
        run.due("later(9)", 9).state("drop(0); park(0, 3); go(0, 0)").due("later(1)", 10);
        run.due("drop(0)", 0).due("hitch(0, 1)", 1).due("go(0, 0)", 20);
    }

    private static void twelveAtMostEver() {
        Run run = Run.terms("TRAILERS 0, 1, .. (12 at most ever)");
        for (int t = 0; t < 12; t++) {
            run.bad("told(" + t + ", 0)").due("trailer(0, 0, 0)", t).due("told(" + t + ", 0)", 1);
        }
        run.after("lose(11); lose(0)").full("trailer(0, 0, 0)").due("count(1)", 12).due("count(2)", 2);
        run.bad("told(12, 0); told(-1, 0); lose(12); hitch(0, 12); told(MOST, 0); told(LEAST, 0)");
        run = run.anew().after("trailer(1, 0, 0); row(0, 8)");
        String[] outside = {"-1", "1", "11", "12", "LEAST", "MOST"};
        run.badWith(outside, "told(#, 0); mark(#, 1); limit(#, 0); hitch(0, #); lose(#)");
        run.badWith(outside, "find(#, 0); seal(#, 3); book(#, 0, 0); where(#, 0)");
        run.badWith(outside, "detention(#); load(#, 1, 0); unload(#); slide(#, 60)");
        run.badWith(outside, "weight(#, true); weight(#, false); lawful(#); shift(#)");
        run.badWith(outside, "cold(#, 0, 0); theft(#); hands(#); canBe(#); look(#, 0, 0)");
    }

    private static void kinds() {
        Run run = Run.terms("0 TRAILER, 1 COLD (a TRAILER), 2 RENTED (a TRAILER), 3 FROZEN (a COLD)");
        run.bad("trailer(-1, 0, 0); trailer(4, 0, 0); trailer(LEAST, 0, 0); trailer(MOST, 0, 0)");
        for (int kind = 0; kind < 4; kind++) {
            run.due("trailer(" + kind + ", 0, 0)", kind).asks("told(" + kind + ", 0)", kind);
        }
    }

    private static void worths() {
        Run run = Run.terms("a WORTH (0 .. 100000)").bad("trailer(0, 0, -1); trailer(0, 0, 100001)");
        run.bad("trailer(0, 0, LEAST); trailer(0, 0, MOST)").after("trailer(0, 0, 0); trailer(0, 0, 100000)");
        run.asks("told(0, 4)", 0).asks("told(1, 4)", 100000);
    }

    private static void oneTrailerAtMost() {
        Run run = Run.terms("Each TRACTOR has one at most.").after("trailer(0, 0, 0); trailer(0, 0, 0)")
            .due("hitch(0, 1)", 1);
        run.state("hitch(0, 0); hitch(0, 1)").asks("tractor(0, 2)", 1).due("drop(0)", 1).due("hitch(0, 0)", 1);
    }

    private static void sixtyEntries() {
        Run run = fullBook(Run.terms("60 entries at most of all TRAILERS together."));
        run.full("trailer(0, 0, 0); hitch(0, 0); lose(0); seal(0, 4); seal(0, 5)").due("book(0, 59, 0)", 3);
        run = run.anew().after("trailer(0, 0, 0); trailer(0, 1, 0); trailer(0, 2, 0)")
            .times(28, "seal(0, 3); seal(0, 5)");
        run.due("count(5)", 59).due("lose(2)", 1).full("find(2, 0); lose(1); trailer(0, 0, 0)").due("count(5)", 60);
    }

    // ---- promise 14

    private static void trailerBad() {
        Run run = Run.promise(14, "BAD; FULL")
            .bad("trailer(0, -1, 0); trailer(0, 8, 0); trailer(4, 0, 0); trailer(0, 0, 100001)");
        run.times(12, "trailer(0, 0, 0)").bad("trailer(4, 0, 0); trailer(0, 8, 0); trailer(0, 0, -1)")
            .full("trailer(3, 7, 100000)");
    }

    private static void trailerFull() {
        Run run = Run.promise(14, "FULL").times(11, "trailer(0, 0, 0)").due("trailer(0, 0, 0)", 11)
            .full("trailer(0, 0, 0)");
    }

    private static void trailerFullBook() {
        Run run = Run.promise(14, "FULL: also THE BOOK").after("trailer(0, 0, 0)").times(29, "seal(0, 3); seal(0, 5)");
        run.due("count(5)", 59).due("trailer(0, 0, 0)", 1).full("trailer(0, 0, 0)").due("count(1)", 2);
        fullBook(run.anew()).full("trailer(0, 0, 0)").bad("trailer(4, 0, 0)");
    }

    // ---- promise 15

    private static void toldNone() {
        Run run = Run.promise(15, "1 the YARD in which it stands (NONE), 2 the TRACTOR to which it is HITCHED (NONE)");
        run.after("trailer(0, 7, 0); park(5, 7)").asks("told(0, 1)", 7).asks("told(0, 2)", NONE).asks("told(0, 3)", 0);
        run.after("hitch(5, 0)").asks("told(0, 1)", NONE).asks("told(0, 2)", 5).asks("told(0, 3)", 0);
        run.after("lose(0)").asks("told(0, 1)", NONE).asks("told(0, 2)", NONE).asks("told(0, 3)", 1);
        run.after("find(0, 0)").asks("told(0, 1)", 0).asks("told(0, 2)", NONE).asks("told(0, 3)", 0);
        run.after("park(0, 0); hitch(0, 0)").asks("told(0, 1)", NONE).asks("told(0, 2)", 0).after("drop(0)");
        run.asks("told(0, 1)", 0).asks("told(0, 2)", NONE).asks("told(0, 3)", 0);
    }

    private static void toldBad() {
        Run run = Run.promise(15, "BAD").bad("told(0, 0)").after("trailer(0, 0, 0)")
            .bad("told(0, -1); told(0, 8); told(1, 0)");
        run.bad("told(-1, 0); told(0, LEAST); told(0, MOST)").asks("told(0, 5)", 100).asks("told(0, 7)", 0);
    }

    // ---- promise 16

    private static void markOfTheKind() {
        Run run = Run.promise(16, "a COLD one (FROZEN, too) its limit").after("trailer(1, 0, 0); trailer(3, 0, 0)");
        run.due("mark(0, 1)", 5).due("mark(1, 1)", -18).after("limit(0, -50); limit(1, 50)");
        run.due("mark(0, 1)", -50).due("mark(1, 1)", 50);
    }

    private static void markDays() {
        Run run = Run.promise(16, "(DAY of NOW less that of its first entry)").after("later(1439); trailer(2, 0, 0)");
        run.due("mark(0, 2)", 0).after("later(1)").due("mark(0, 2)", 1).after("lose(0); later(1439); find(0, 1)");
        run.due("mark(0, 2)", 1).after("later(1)").due("mark(0, 2)", 2);
    }

    private static void markLooks() {
        Run run = Run.promise(16, "how often its ROW of degrees was looked at")
            .after("trailer(3, 0, 0); trailer(3, 0, 0)");
        run.finds(NOTHING, "cold(0, 0, 0)").bad("cold(0, 0, 3); cold(0, 6, 0)").due("mark(0, 3)", 0).after("row(0, 0)");
        run.after("cold(0, 0, 0)").due("mark(0, 3)", 1).after("cold(0, 0, 1); cold(0, 0, 2)").due("mark(0, 3)", 3);
        run.due("mark(1, 3)", 0);
    }

    private static void markBad() {
        Run run = Run.promise(16, "BAD: also KIND 0")
            .after("trailer(0, 0, 0); trailer(1, 0, 0); trailer(2, 0, 0); trailer(3, 0, 0)");
        String[] numbers = {"0", "1", "2", "3"};
        run.badWith(numbers, "mark(#, 0); mark(#, 4); mark(#, -1); mark(#, LEAST); mark(#, MOST)");
        run.bad("mark(4, 1); mark(-1, 1); mark(12, 0)");
    }

    private static void markUnlike() {
        Run run = Run.promise(16, "UNLIKE")
            .after("trailer(0, 0, 0); trailer(1, 0, 0); trailer(2, 0, 0); trailer(3, 0, 0)");
        run.finds(UNLIKE, "mark(0, 1); mark(0, 2); mark(0, 3); mark(1, 2); mark(1, 3); mark(2, 1); mark(2, 3); mark(3, 2)");
        run.due("mark(1, 1)", 5).due("mark(2, 2)", 0).due("mark(3, 1)", -18).due("mark(3, 3)", 0);
    }

    // ---- promise 17

    private static void limitAtFirst() {
        Run run = Run.promise(17, "(-50 .. 50; 5 at first, -18 of a FROZEN one)")
            .after("trailer(1, 0, 0); trailer(3, 0, 0)");
        run.tells("limit(0, 50)", 1, 5).tells("limit(0, -50)", 1, 50).tells("limit(0, 0)", 1, -50);
        run.tells("limit(1, -50)", 1, -18).tells("limit(1, 50)", 1, -50).due("mark(1, 1)", 50);
    }

    private static void limitBad() {
        Run run = Run.promise(17, "BAD; UNLIKE").after("trailer(0, 0, 0); trailer(1, 0, 0)")
            .bad("limit(1, 51); limit(1, -51)");
        run.bad("limit(1, LEAST); limit(1, MOST); limit(-1, 0); limit(2, 0); limit(0, 51); limit(0, -51)")
            .due("mark(1, 1)", 5);
    }

    private static void limitUnlike() {
        Run run = Run.promise(17, "UNLIKE").after("trailer(0, 0, 0); trailer(2, 0, 0)");
        run.finds(UNLIKE, "limit(0, 0); limit(1, 0); limit(0, 50); limit(1, -50)");
    }

    // ---- promise 18

    private static void parkHasRested() {
        Run run = Run.promise(18, "A TRACTOR is put in a YARD by hand, and has rested");
        run.after("way(0, 1, 600, 0)").due("go(0, 1)", 600).after("later(600)").state("go(0, 0)").due("park(0, 1)", 1);
        run.asks("tractor(0, 3)", 0).asks("tractor(0, 4)", 600).asks("tractor(0, 1)", 600).due("go(0, 0)", 1200);
    }

    private static void parkHitchedComesAlong() {
        Run run = Run.promise(18, "what it has HITCHED comes along (it still is)")
            .after("trailer(0, 0, 0); hitch(2, 0)");
        run.due("park(2, 6)", 1).asks("told(0, 1)", NONE).asks("told(0, 2)", 2).asks("tractor(2, 2)", 0)
            .due("count(5)", 2);
        run.due("drop(2)", 0).asks("told(0, 1)", 6).due("book(0, 2, 2)", 6);
    }

    private static void parkBad() {
        Run run = Run.promise(18, "BAD; STATE")
            .bad("park(-1, 0); park(6, 0); park(0, -1); park(0, 8); park(LEAST, 0); park(0, MOST)");
        run.after("way(0, 1, 9, 0); go(0, 1)").bad("park(0, 8); park(0, -1)");
    }

    private static void parkState() {
        Run run = Run.promise(18, "STATE: it is on the way").after("way(0, 1, 9, 0); go(0, 1)")
            .state("park(0, 0); park(0, 1)");
        run.after("later(8)").state("park(0, 0)").after("later(1)").due("park(0, 0)", 1).asks("tractor(0, 0)", 0);
        run.asks("tractor(0, 1)", 9);
    }

    // ---- promise 19

    private static void hitchBad() {
        Run run = Run.promise(19, "BAD; FULL: THE BOOK").bad("hitch(0, 0)").after("trailer(0, 0, 0)");
        run.bad("hitch(-1, 0); hitch(6, 0); hitch(0, 1); hitch(0, -1)").after("hitch(0, 0)")
            .bad("hitch(0, 1); hitch(6, 0)");
        fullBook(run.anew()).bad("hitch(0, 1); hitch(6, 0)");
    }

    private static void hitchOnTheWay() {
        Run run = Run.promise(19, "STATE: it is on the way")
            .after("way(0, 1, 9, 0); trailer(0, 1, 0); trailer(0, 0, 0); go(0, 1)");
        run.state("hitch(0, 0); hitch(0, 1)").after("later(8)").state("hitch(0, 0)").after("later(1)")
            .due("hitch(0, 0)", 1);
    }

    private static void hitchHasOne() {
        Run run = Run.promise(19, "has one").after("trailer(0, 0, 0); trailer(0, 0, 0); hitch(0, 0)")
            .state("hitch(0, 1)");
        run.after("lose(0)").due("hitch(0, 1)", 1).asks("tractor(0, 2)", 1);
    }

    private static void hitchNotInItsYard() {
        Run run = Run.promise(19, "or the TRAILER does not stand in its YARD")
            .after("trailer(0, 0, 0); trailer(0, 7, 0)");
        run.state("hitch(0, 1)").after("hitch(1, 0)").state("hitch(0, 0)").after("lose(0)").state("hitch(0, 0)");
        run.after("find(0, 1)").state("hitch(0, 0)").after("park(0, 1)").due("hitch(0, 0)", 1);
    }

    private static void hitchFull() {
        Run run = fullBook(Run.promise(19, "(FULL behind STATE.)")).full("hitch(0, 0)").after("park(1, 1)")
            .state("hitch(1, 0)");
        run.after("way(0, 1, 5, 0); go(0, 1)").state("hitch(0, 0)");
        run = run.anew().after("trailer(0, 0, 0); trailer(0, 0, 0)").times(29, "seal(0, 3); seal(0, 5)")
            .due("count(5)", 60);
        run.full("hitch(0, 1)").due("count(5)", 60);
        run = run.anew().after("trailer(0, 0, 0)").times(29, "seal(0, 3); seal(0, 5)").due("hitch(0, 0)", 1)
            .due("count(5)", 60);
    }

    // ---- promise 20

    private static void dropBad() {
        Run.promise(20, "BAD; FULL").bad("drop(-1); drop(6); drop(LEAST); drop(MOST)");
        fullBook(Run.promise(20, "BAD; FULL")).bad("drop(6); drop(-1)");
    }

    private static void dropState() {
        Run run = Run.promise(20, "STATE: it is on the way, or has none").state("drop(0); drop(5)");
        run.after("way(0, 7, 9, 0); trailer(0, 0, 0); hitch(0, 0); go(0, 7)").state("drop(0)").after("later(8)")
            .state("drop(0)");
        run.after("later(1)").due("drop(0)", 0).state("drop(0)").after("hitch(0, 0); lose(0)").state("drop(0)");
    }

    private static void dropFull() {
        Run run = Run.promise(20, "(FULL behind STATE.)").after("trailer(0, 0, 0); hitch(0, 0)")
            .times(29, "seal(0, 3); seal(0, 5)");
        run.due("count(5)", 60).full("drop(0)").state("drop(1)").after("way(0, 1, 5, 0); go(0, 1)").state("drop(0)");
        run.after("later(5)").full("drop(0)").asks("tractor(0, 2)", 0);
        run = run.anew().after("trailer(0, 0, 0); hitch(0, 0); seal(0, 3)").times(28, "seal(0, 5); seal(0, 3)");
        run.due("count(5)", 59).due("drop(0)", 0).due("count(5)", 60);
    }

    // ---- promise 21

    private static void goBad() {
        Run run = Run.promise(21, "BAD: also its own YARD").after("way(0, 1, 9, 0)")
            .bad("go(-1, 1); go(6, 1); go(0, -1); go(0, 8)");
        run.bad("go(LEAST, 1); go(MOST, 1); go(0, LEAST); go(0, MOST)").after("go(0, 1)").bad("go(0, 8); go(0, -1)");
    }

    private static void goItsOwnYard() {
        Run run = Run.promise(21, "also its own YARD").after("way(0, 7, 9, 0)").bad("go(0, 0); go(5, 0)")
            .due("go(5, 7)", 9);
        run.bad("go(5, 7)").state("go(5, 0)").after("later(9)").bad("go(5, 7)").due("go(5, 0)", 18);
    }

    private static void goOnTheWay() {
        Run run = Run.promise(21, "(NOTHING behind being on the way, ahead of HOURS; beyond 99999 it is STATE, too.)");
        run.after("way(0, 1, 9, 0)").due("go(0, 1)", 9).state("go(0, 0); go(0, 2)").after("later(8)")
            .state("go(0, 0); go(0, 7)");
        run.after("later(1)").finds(NOTHING, "go(0, 7)").due("go(0, 0)", 18);
    }

    private static void goNothing() {
        Run run = Run.promise(21, "NOTHING: none leads there").after("way(0, 1, 600, 0)")
            .finds(NOTHING, "go(0, 2); go(0, 7)");
        run.due("go(0, 1)", 600).after("later(600)").state("go(0, 0)").finds(NOTHING, "go(0, 2)");
    }

    private static void goBeyondTheLastMinute() {
        Run run = Run.promise(21, "beyond 99999 it is STATE, too").after("way(0, 1, 50, 0); later(99949)")
            .due("go(0, 1)", 99999);
        run.after("later(1)").state("go(1, 1)").finds(NOTHING, "go(1, 2)").after("later(49)")
            .state("go(0, 0); go(1, 1)");
        run.asks("tractor(0, 0)", 1).asks("tractor(1, 0)", 0).asks("tractor(1, 4)", 0);
    }

    private static void hoursToTheLast() {
        Run run = Run.terms("no more than H minutes may be DRIVEN together")
            .after("way(0, 1, 600, 0); way(1, 2, 1, 0)");
        run.state("go(0, 2)").due("go(0, 1)", 600).after("later(600)").state("go(0, 2)").asks("tractor(0, 3)", 600);
        run = run.anew().after("way(0, 1, 599, 0); way(1, 2, 1, 0); way(2, 3, 1, 0); go(0, 1); later(599)")
            .due("go(0, 2)", 600);
        run.asks("tractor(0, 3)", 600).after("later(1)").state("go(0, 3); go(0, 1)");
        run = run.anew().told("H10", 0).after("way(0, 1, 10, 0); way(0, 2, 11, 0)").state("go(0, 2)")
            .due("go(0, 1)", 10);
    }

    private static void restToTheLast() {
        Run run = Run.terms("since its latest REST (R minutes or more in a YARD, one behind the other; at first it has rested)");
        run.after("way(0, 1, 400, 0)").due("go(0, 1)", 400).after("later(879)").state("go(0, 0)").after("later(1)");
        run.due("go(0, 0)", 1280).asks("tractor(0, 3)", 400).asks("tractor(0, 4)", 800);
        run = run.anew().after("way(0, 1, 600, 0)").due("go(0, 1)", 600);
        run = run.anew().told("R100H50", 0).after("way(0, 1, 50, 0); go(0, 1); later(149)").state("go(0, 0)")
            .after("later(1)");
        run.due("go(0, 0)", 200);
    }

    private static void restOneBehindTheOther() {
        Run run = Run.terms("one behind the other").after("way(0, 1, 250, 0); go(0, 1); later(490); go(0, 0)");
        run.asks("tractor(0, 3)", 500).after("later(490)").state("go(0, 1)").after("later(239)").state("go(0, 1)")
            .after("later(1)");
        run.due("go(0, 1)", 1470).asks("tractor(0, 3)", 250);
    }

    private static void hoursWithFerries() {
        Run run = Run.terms("its minutes from NOW till then are DRIVEN")
            .after("way(0, 1, 1, 0); ferry(0, 1, 1440, 600)");
        run.state("go(0, 1)").after("later(1)").due("go(0, 1)", 601).asks("tractor(0, 3)", 600)
            .asks("tractor(0, 4)", 600);
    }

    private static void hoursOfTheDay() {
        Run run = Run.terms("(H, R IN FORCE for DAY of NOW, as known on it)").told("H9R9", 1).after("way(0, 1, 10, 0)");
        run.due("go(0, 1)", 10).after("later(1439)").due("go(0, 0)", 1449).after("later(10); park(1, 0)")
            .state("go(1, 1)");
        run = run.anew().after("way(0, 1, 10, 0); later(1440)").told("H9", 0).state("go(0, 1)").told("H10R20", 1);
        run.due("go(0, 1)", 1450).after("later(29)").state("go(0, 0)").after("later(1)").due("go(0, 0)", 1480);
    }

    private static void hoursOfNone() {
        Run run = Run.terms("no more than H minutes may be DRIVEN together").told("H0R0", 0).after("way(0, 1, 1, 0)")
            .state("go(0, 1)");
        run.told("H1R0", 0).due("go(0, 1)", 1).after("later(1)").due("go(0, 0)", 2).after("later(1)")
            .due("go(0, 1)", 3);
        run.asks("tractor(0, 3)", 1).asks("tractor(0, 4)", 3);
    }

    // ---- promise 22

    private static void tractorOnTheWay() {
        Run run = Run.promise(22, "(on the way: that to which it goes), 1 the minute from which on it is there (0 at first; park(): NOW)");
        run.after("way(0, 7, 9, 0); later(5)").asks("tractor(0, 1)", 0).due("go(0, 7)", 14).asks("tractor(0, 0)", 7);
        run.asks("tractor(0, 1)", 14).after("later(50)").asks("tractor(0, 1)", 14).due("park(0, 7)", 1)
            .asks("tractor(0, 1)", 55);
    }

    private static void tractorSinceItsRest() {
        Run run = Run.promise(22, "(as its latest going, or park(), left them)")
            .after("way(0, 1, 9, 0); go(0, 1); later(1009)");
        run.asks("tractor(0, 3)", 9).after("go(0, 0)").asks("tractor(0, 3)", 9).after("later(9); go(0, 1); later(9)");
        run.asks("tractor(0, 3)", 18).asks("tractor(0, 4)", 27).after("park(0, 0)").asks("tractor(0, 3)", 0)
            .asks("tractor(0, 4)", 27);
    }

    private static void tractorBad() {
        Run run = Run.promise(22, "BAD").bad("tractor(-1, 0); tractor(6, 0); tractor(0, -1); tractor(0, 5)");
        run.bad("tractor(LEAST, 0); tractor(0, MOST)").tells("tractor(5, 4)", 1, 0).tells("tractor(0, 2)", 1, NONE);
    }

    // ---- promise 23

    private static void loseOutOfAYard() {
        Run run = Run.promise(23, "(out of a YARD; from its TRACTOR)").after("trailer(0, 3, 0)").due("lose(0)", 1);
        run.asks("told(0, 1)", NONE).asks("told(0, 3)", 1).after("park(0, 3)").state("hitch(0, 0)");
    }

    private static void loseFromItsTractor() {
        Run run = Run.promise(23, "from its TRACTOR")
            .after("way(0, 1, 9, 0); trailer(0, 0, 0); hitch(4, 0); go(4, 1); later(3)");
        run.due("lose(0)", 1).asks("tractor(4, 2)", NONE).asks("tractor(4, 0)", 1).asks("told(0, 2)", NONE)
            .after("later(6)");
        run.state("drop(4)").after("find(0, 1)").due("hitch(4, 0)", 1);
    }

    private static void loseBad() {
        Run.promise(23, "BAD; FULL").bad("lose(0)").after("trailer(0, 0, 0)")
            .bad("lose(-1); lose(1); lose(LEAST); lose(MOST)");
        fullBook(Run.promise(23, "BAD; FULL")).bad("lose(1); lose(-1)");
    }

    private static void loseState() {
        Run run = Run.promise(23, "STATE: it is LOST").after("trailer(0, 0, 0); lose(0)").state("lose(0)")
            .after("find(0, 0)");
        run.due("lose(0)", 1).due("count(5)", 4);
    }

    private static void loseFull() {
        Run run = fullBook(Run.promise(23, "(FULL behind STATE.)")).full("lose(0)").due("count(2)", 0);
        run = run.anew().after("trailer(0, 0, 0)").times(29, "seal(0, 3); seal(0, 5)").due("lose(0)", 1)
            .state("lose(0)");
        run.due("count(5)", 60).due("count(2)", 1);
    }

    // ---- promise 24

    private static void findBad() {
        Run run = Run.promise(24, "BAD; FULL").bad("find(0, 0)").after("trailer(0, 0, 0)")
            .bad("find(0, -1); find(0, 8); find(1, 0)");
        run.after("lose(0)").bad("find(0, -1); find(0, 8); find(-1, 0); find(0, LEAST); find(0, MOST)")
            .due("find(0, 7)", 1);
    }

    private static void findState() {
        Run run = Run.promise(24, "STATE: it is not LOST").after("trailer(0, 0, 0)").state("find(0, 0); find(0, 7)");
        run.after("hitch(0, 0)").state("find(0, 0)").after("lose(0)").due("find(0, 0)", 1).state("find(0, 0)");
    }

    private static void findFull() {
        Run run = fullBook(Run.promise(24, "(FULL behind STATE.)")).state("find(0, 0)").bad("find(0, 8)");
        run = run.anew().after("trailer(0, 0, 0); trailer(0, 0, 0); lose(1)").times(28, "seal(0, 3); seal(0, 5)");
        run.due("count(5)", 59).due("find(1, 4)", 1).due("count(5)", 60);
        run = run.anew().after("trailer(0, 0, 0)").times(29, "seal(0, 3); seal(0, 5)").after("lose(0)")
            .full("find(0, 0)");
        run.bad("find(0, 8)").asks("told(0, 3)", 1);
    }

    // ---- promise 25

    private static void sealBad() {
        Run run = Run.promise(25, "BAD; FULL").bad("seal(0, 3)").after("trailer(0, 0, 0)")
            .bad("seal(0, 2); seal(0, 6); seal(0, 0)");
        run.bad("seal(1, 3); seal(-1, 3); seal(0, LEAST); seal(0, MOST)").after("lose(0)")
            .bad("seal(0, 2); seal(0, 6)");
        fullBook(run.anew()).bad("seal(0, 2); seal(0, 6); seal(1, 3)");
    }

    private static void sealLost() {
        Run run = Run.promise(25, "STATE: LOST").after("trailer(0, 0, 0); lose(0)")
            .state("seal(0, 3); seal(0, 4); seal(0, 5)");
        run.after("find(0, 0)").due("seal(0, 3)", 1).after("lose(0)").state("seal(0, 3); seal(0, 4); seal(0, 5)");
        run.asks("told(0, 7)", 1).after("find(0, 0)").due("seal(0, 4)", 1).due("seal(0, 5)", 1);
    }

    private static void sealSealed() {
        Run run = Run.promise(25, "3 SEALED, 4, 5 not SEALED").after("trailer(0, 0, 0)")
            .state("seal(0, 4); seal(0, 5)");
        run.due("seal(0, 3)", 1).state("seal(0, 3)").due("seal(0, 4)", 1).state("seal(0, 3)").due("seal(0, 4)", 1);
        run.asks("told(0, 7)", 1).due("seal(0, 5)", 1).asks("told(0, 7)", 0).state("seal(0, 5); seal(0, 4)")
            .due("seal(0, 3)", 1);
    }

    private static void sealFull() {
        Run run = fullBook(Run.promise(25, "(FULL behind STATE.)")).state("seal(0, 3)").full("seal(0, 4); seal(0, 5)");
        run = run.anew().after("trailer(0, 0, 0)").times(29, "seal(0, 3); seal(0, 5)").due("count(5)", 59);
        run.due("seal(0, 3)", 1).due("count(5)", 60);
        run = run.anew().after("trailer(0, 0, 0); trailer(0, 0, 0)").times(29, "seal(0, 3); seal(0, 5)")
            .full("seal(0, 3)");
        run.state("seal(0, 4); seal(0, 5)").full("seal(1, 3)");
    }

    // ---- promise 26

    private static void bookNone() {
        Run run = Run.promise(26, "2 YARD or TRACTOR (NONE: sorts 2 to 5)")
            .after("later(3); trailer(0, 7, 0); park(5, 7); hitch(5, 0)");
        run.after("seal(0, 3); seal(0, 4); seal(0, 5); lose(0); later(2); find(0, 0)");
        int[][] want = {{0, 3, 7}, {1, 3, 5}, {3, 3, NONE}, {4, 3, NONE}, {5, 3, NONE}, {2, 3, NONE}, {0, 5, 0}};
        for (int i = 0; i < want.length; i++) {
            for (int what = 0; what < 3; what++) {
                run.due("book(0, " + i + ", " + what + ")", want[i][what]);
            }
        }
    }

    private static void bookNoneSuch() {
        Run run = Run.promise(26, "NONE: none such").after("trailer(0, 0, 0); trailer(0, 0, 0); seal(1, 3)")
            .due("book(0, 0, 1)", 0);
        run.each("book(0, 1, 0); book(0, 1, 1); book(0, 1, 2); book(1, 2, 0); book(0, 60, 0); book(0, MOST, 0)", NONE);
        run.each("book(0, -1, 0); book(1, -1, 2); book(0, LEAST, 1)", NONE);
        fullBook(run.anew()).due("book(0, 59, 0)", 3).due("book(0, 60, 0)", NONE);
    }

    private static void bookBad() {
        Run run = Run.promise(26, "BAD").bad("book(0, 0, 0)").after("trailer(0, 0, 0)")
            .bad("book(0, 0, -1); book(0, 0, 3)");
        run.bad("book(1, 0, 0); book(-1, 0, 0); book(0, 5, 3); book(1, 5, 0); book(0, 0, LEAST); book(0, 0, MOST)");
    }

    // ---- promise 27

    private static void whereWasItNotYet() {
        Run run = Run.promise(27, "NONE: it was not yet").after("trailer(0, 3, 0); later(10); trailer(0, 7, 0)");
        run.each("where(1, 0); where(1, 9)", NONE).due("where(1, 10)", 7).due("where(0, 0)", 3).due("where(0, 10)", 3);
    }

    private static void whereBehindAllEntries() {
        Run run = Run.promise(27, "(0 .. NOW; behind all entries of it)")
            .after("trailer(0, 0, 0); later(4); hitch(5, 0)");
        run.due("where(0, 3)", 0).due("where(0, 4)", 15).after("seal(0, 3)").due("where(0, 4)", 15).after("drop(5)");
        run.due("where(0, 4)", 0).after("hitch(0, 0)").due("where(0, 4)", 10).after("later(1); lose(0)")
            .due("where(0, 4)", 10);
        run.due("where(0, 5)", 20).after("find(0, 7)").due("where(0, 5)", 7).due("where(0, 0)", 0);
    }

    private static void whereBad() {
        Run run = Run.promise(27, "BAD").bad("where(0, 0)").after("trailer(0, 0, 0)")
            .bad("where(0, 1); where(0, -1); where(1, 0)");
        run.bad("where(-1, 0); where(0, LEAST); where(0, MOST)").after("later(99999)").due("where(0, 99999)", 0);
        run.bad("where(0, 100000)");
        fullBook(run.anew()).due("where(0, 0)", 0).bad("where(0, 1)").after("later(5)").due("where(0, 5)", 0);
    }
}
