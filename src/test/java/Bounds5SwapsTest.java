/** The boundary cases of promises 43 to 46 and of the terms' part 5: swaps, pairs, one that is late. */
public final class Bounds5SwapsTest {
    private static final int NONE = -9, NOTHING = 1, UNLIKE = 3, SIZE = 5;

    public static void main(String[] args) {
        swap();
        pairs();
        partner();
        late();
        Check.end();
    }

    private static void swap() {
        swapInTenMinutes();
        swapAsTheLaterOneComes();
        swapEndOfTheLaterOne();
        swapWhereTheyAre();
        swapLeastEnd();
        swapLeastSum();
        swapLeastYard();
        swapAtTheLastMinute();
        swapBad();
        swapState();
        swapNothing();
    }

    private static void pairs() {
        pairsOfTwoFourSix();
        pairsLeastGreatestEnd();
        pairsFirstOfAlikeOnes();
        pairsEachJustOnce();
        pairsBad();
        pairsNothingOfTheRow();
        pairsSize();
        pairsUnlike();
        pairsState();
        pairsNoWayToPart();
    }

    private static void partner() {
        partnerNone();
        partnerOfTheLatest();
        partnerBad();
    }

    private static void late() {
        lateMinutes();
        lateDawn();
        lateOfTheOtherOne();
        lateCutWaits();
        lateCutGoes();
        lateAlike();
        lateWithoutWrap();
        lateBad();
        lateState();
        lateNothing();
    }

    /** Tractors in these yards, each with a trailer of its own number HITCHED, of worth 1000, 2000, .. */
    private static Run tractors(Run run, int... yards) {
        for (int k = 0; k < yards.length; k++) {
            run.after("park(" + k + ", " + yards[k] + "); trailer(0, " + yards[k] + ", " + (1000 * (k + 1)) + ")");
            run.after("hitch(" + k + ", " + k + ")");
        }
        return run;
    }

    // ---- promise 43

    private static void swapInTenMinutes() {
        Run run = tractors(Run.terms("they change TRAILERS in 10 minutes"), 3, 3).tells("swap(0, 1, 3, 3)", 3, 10);
        run.after("way(3, 4, 50, 0); ferry(3, 4, 60, 10)").tells("swap(0, 1, 4, 4)", 3, 60).after("later(1)");
        run.tells("swap(0, 1, 4, 4)", 4, 70);
    }

    private static void swapAsTheLaterOneComes() {
        Run run = tractors(Run.terms("as the later one COMES they change TRAILERS"), 0, 2)
            .after("way(0, 1, 30, 0); way(1, 2, 70, 0)");
        run.tells("swap(0, 1, 0, 2)", 1, 150).tells("swap(1, 0, 2, 0)", 1, 150).asks("told(0, 2)", 0)
            .asks("tractor(0, 1)", 0);
    }

    private static void swapEndOfTheLaterOne() {
        Run run = tractors(Run.terms("END is as the later one is there"), 1, 1)
            .after("way(1, 0, 30, 0); way(1, 2, 70, 0)");
        run.tells("swap(0, 1, 0, 2)", 1, 80).tells("swap(0, 1, 2, 0)", 1, 80).tells("swap(0, 1, 0, 1)", 1, 40);
        run.tells("swap(0, 1, 1, 0)", 1, 40).tells("swap(0, 1, 1, 1)", 1, 10);
    }

    private static void swapWhereTheyAre() {
        Run run = tractors(Run.terms("both go to a YARD m (NOW)"), 0, 0).after("way(0, 7, 10, 0); later(5)");
        run.tells("swap(0, 1, 0, 0)", 0, 15).tells("swap(0, 1, 7, 7)", 0, 25).tells("swap(0, 1, 0, 7)", 0, 25);
    }

    private static void swapLeastEnd() {
        Run run = tractors(Run.terms("THE SWAP: the m with the least END"), 0, 2)
            .after("way(0, 1, 100, 0); way(1, 2, 100, 0)");
        run.tells("swap(0, 1, 0, 2)", 1, 210).after("way(0, 7, 80, 0); way(7, 2, 101, 0)")
            .tells("swap(0, 1, 0, 2)", 1, 210);
        run.after("way(0, 7, 99, 0); way(7, 2, 99, 0)").tells("swap(0, 1, 0, 2)", 7, 208);
    }

    private static void swapLeastSum() {
        Run run = tractors(Run.terms("of alike ones the least sum of both"), 0, 2)
            .after("way(0, 1, 100, 0); way(1, 2, 100, 0)");
        run.after("way(0, 7, 99, 0); way(7, 2, 100, 0)").tells("swap(0, 1, 0, 2)", 7, 210)
            .tells("swap(1, 0, 2, 0)", 7, 210);
        run.after("way(0, 7, 100, 0); way(7, 2, 99, 0)").tells("swap(0, 1, 0, 2)", 7, 210)
            .tells("swap(1, 0, 2, 0)", 7, 210);
    }

    private static void swapLeastYard() {
        Run run = tractors(Run.terms("then the least m"), 0, 2).after("way(0, 7, 100, 0); way(7, 2, 100, 0)");
        run.tells("swap(0, 1, 0, 2)", 7, 210).after("way(0, 4, 100, 0); way(4, 2, 100, 0)")
            .tells("swap(0, 1, 0, 2)", 4, 210);
        run.after("way(0, 1, 101, 0); way(1, 2, 99, 0)").tells("swap(0, 1, 0, 2)", 4, 210);
    }

    private static void swapAtTheLastMinute() {
        Run run = tractors(Run.promise(43, "THE SWAP of two TRACTORS with their HOMES"), 0, 0)
            .after("later(99999); way(0, 1, 600, 0)");
        run.tells("swap(0, 1, 0, 0)", 0, 100009).tells("swap(0, 1, 1, 0)", 0, 100609);
    }

    private static void swapBad() {
        Run run = tractors(Run.promise(43, "BAD: also the same one"), 0, 0)
            .bad("swap(0, 0, 0, 0); swap(1, 1, 0, 0); swap(5, 5, 0, 0)");
        run.bad("swap(-1, 0, 0, 0); swap(0, 6, 0, 0); swap(0, 1, 8, 0); swap(0, 1, 0, 8); swap(0, 1, -1, 0)")
            .bad("swap(0, 1, 0, -1)");
        run.bad("swap(4, 5, 8, 0); swap(6, 5, 0, 0); swap(5, 6, 0, 0)");
    }

    private static void swapState() {
        Run run = tractors(Run.promise(43, "STATE: either is on the way, or has no TRAILER"), 0, 0)
            .after("way(0, 1, 9, 0)");
        run.state("swap(0, 2, 0, 0); swap(2, 0, 0, 0); swap(2, 3, 0, 0)").after("go(0, 1)")
            .state("swap(0, 1, 0, 0); swap(1, 0, 0, 0)");
        run.after("later(8)").state("swap(0, 1, 0, 0); swap(1, 0, 0, 0)").after("later(1)")
            .tells("swap(0, 1, 1, 1)", 1, 28);
        run.after("drop(1)").state("swap(0, 1, 0, 0); swap(1, 0, 0, 0)").after("lose(0)").state("swap(0, 1, 0, 0)");
    }

    private static void swapNothing() {
        Run run = tractors(Run.promise(43, "NOTHING: no m. (NOTHING behind STATE.)"), 0, 1)
            .finds(NOTHING, "swap(0, 1, 0, 0); swap(1, 0, 0, 0)");
        run.state("swap(0, 2, 0, 0)").after("way(0, 1, 9, 0)")
            .finds(NOTHING, "swap(0, 1, 7, 0); swap(0, 1, 0, 7); swap(0, 1, 7, 7)");
        run.tells("swap(0, 1, 0, 1)", 0, 28).finds(NOTHING, "swap(0, 1, 7, 0)").due("asked()", 28)
            .state("swap(0, 2, 7, 7)");
    }

    // ---- promise 44

    private static void pairsOfTwoFourSix() {
        Run run = tractors(Run.terms("PAIRS of TRACTORS (2, 4 or 6 that can SWAP)"), 0, 0, 0, 0, 0, 0)
            .after("row(0, 6)");
        run.due("pairs(3, 0)", 10).due("pairs(48, 0)", 10).due("pairs(15, 0)", 10).due("pairs(60, 0)", 10)
            .due("pairs(63, 0)", 10);
        run.bad("pairs(0, 0); pairs(1, 0); pairs(32, 0); pairs(7, 0); pairs(56, 0); pairs(31, 0); pairs(62, 0)");
    }

    private static void pairsLeastGreatestEnd() {
        Run run = tractors(Run.terms("that with the least greatest END"), 0, 1, 1, 0).row(0, 0, 1, 1, 0, 0, 0)
            .after("way(0, 1, 40, 0)");
        run.due("pairs(15, 0)", 10).due("partner(0)", 3).due("partner(1)", 2).due("partner(2)", 1).due("partner(3)", 0);
        run.due("pairs(3, 0)", 90).due("partner(0)", 1).due("partner(2)", NONE);
    }

    private static void pairsFirstOfAlikeOnes() {
        Run run = tractors(Run.terms("of alike ones the first (the partner of the least TRACTOR the least, and so on)"), 0, 0, 0, 0, 0, 0);
        run.after("row(0, 6)").due("pairs(63, 0)", 10);
        expectPartners(run, 1, 0, 3, 2, 5, 4);
        run.after("way(0, 1, 40, 0); park(5, 1)").row(0, 0, 0, 0, 0, 0, 1).due("pairs(63, 0)", 90);
        expectPartners(run, 1, 0, 3, 2, 5, 4);
        run.after("park(1, 1)").row(0, 0, 1, 0, 0, 0, 1).due("pairs(63, 0)", 10);
        expectPartners(run, 2, 5, 0, 4, 3, 1);
        run.due("pairs(30, 0)", 90);
        expectPartners(run, NONE, 2, 1, 4, 3, NONE);
    }

    private static void expectPartners(Run run, int... want) {
        for (int k = 0; k < want.length; k++) {
            run.due("partner(" + k + ")", want[k]);
        }
    }

    private static void pairsEachJustOnce() {
        Run run = tractors(Run.terms("of all ways to part them into twos"), 4, 5, 6, 0).row(0, 4, 5, 6, 0, 0, 0);
        for (int y = 1; y <= 3; y++) {
            run.after("way(0, " + y + ", 50, 0); way(" + y + ", " + (y + 3) + ", 50, 0)");
        }
        run.due("pairs(9, 0)", 110).due("pairs(10, 0)", 110).due("pairs(12, 0)", 110).due("pairs(15, 0)", 210);
        expectPartners(run, 1, 0, 3, 2, NONE, NONE);
    }

    private static void pairsBad() {
        Run run = tractors(Run.promise(44, "BAD: also not 2, 4, 6 of them"), 0, 0, 0).after("row(0, 6); row(1, 5)");
        run.bad("pairs(1, 0); pairs(7, 0); pairs(0, 0); pairs(64, 0); pairs(65, 0); pairs(67, 0); pairs(192, 0)")
            .bad("pairs(127, 0)");
        run.bad("pairs(-1, 0); pairs(LEAST, 0); pairs(MOST, 0); pairs(-2147483645, 0); pairs(3, -1); pairs(3, 6)");
        run.bad("pairs(1, 2); pairs(1, 1); pairs(64, 5)").row(0, 8, 0, 0, 0, 0, 0).bad("pairs(1, 0); pairs(7, 0)");
    }

    private static void pairsNothingOfTheRow() {
        Run run = tractors(Run.promise(44, "NOTHING: the ROW; SIZE: not six"), 0, 0)
            .finds(NOTHING, "pairs(3, 0); pairs(63, 5)");
        run.row(0, 0, 0, 0, 0, 0, 0).due("pairs(3, 0)", 10).after("tear(0)").finds(NOTHING, "pairs(3, 0)");
    }

    private static void pairsSize() {
        Run run = tractors(Run.promise(44, "SIZE: not six"), 0, 0).after("row(0, 0)").finds(SIZE, "pairs(3, 0)")
            .row(0, 8, 8, 8, 8, 8);
        run.finds(SIZE, "pairs(3, 0); pairs(63, 0)").after("row(0, 7)").finds(SIZE, "pairs(3, 0)").after("row(0, 40)");
        run.finds(SIZE, "pairs(3, 0)");
    }

    private static void pairsUnlike() {
        Run run = tractors(Run.promise(44, "UNLIKE: a HOME that is none"), 0, 0).row(0, 8, 0, 0, 0, 0, 0)
            .finds(UNLIKE, "pairs(3, 0)");
        run.finds(UNLIKE, "pairs(63, 0); pairs(48, 0)").row(0, 0, -1, 0, 0, 0, 0).finds(UNLIKE, "pairs(3, 0)");
        run.row(0, 0, Integer.MIN_VALUE, 0, 0, 0, 0).finds(UNLIKE, "pairs(3, 0)")
            .row(0, 0, Integer.MAX_VALUE, 0, 0, 0, 0);
        run.finds(UNLIKE, "pairs(3, 0)").after("way(0, 7, 5, 0)").row(0, 0, 7, 0, 0, 0, 0).due("pairs(3, 0)", 15);
    }

    private static void pairsState() {
        Run run = tractors(Run.promise(44, "STATE: one is on the way, or has no TRAILER"), 0, 0, 7)
            .after("row(0, 6); way(0, 1, 9, 0)");
        run.state("pairs(9, 0); pairs(48, 0); pairs(63, 0); pairs(12, 0)").after("go(1, 1)")
            .state("pairs(3, 0); pairs(6, 0)");
        run.after("later(8)").state("pairs(3, 0)").after("later(1)").due("pairs(3, 0)", 28).after("lose(1)")
            .state("pairs(3, 0)");
        run = tractors(run.anew(), 0, 0, 0, 0, 0, 0).after("row(0, 6)");
        for (int k = 0; k < 6; k++) {
            int with = 1 << k | 1 << (k + 1) % 6;
            run.due("pairs(" + with + ", 0)", 10).after("drop(" + k + ")")
                .state("pairs(" + with + ", 0); pairs(63, 0)");
            run.after("hitch(" + k + ", " + k + ")");
        }
    }

    private static void pairsNoWayToPart() {
        Run run = tractors(Run.promise(44, "NOTHING: no way to part them. (In this order.)"), 0, 0, 7, 7)
            .after("row(0, 6)");
        run.finds(NOTHING, "pairs(5, 0); pairs(12, 0); pairs(15, 0)").row(0, 0, 0, 7, 7, 0, 0).due("pairs(15, 0)", 10);
        run.due("pairs(12, 0)", 10).finds(NOTHING, "pairs(5, 0)").due("partner(2)", 3).due("partner(0)", NONE)
            .state("pairs(36, 0)");
    }

    // ---- promise 45

    private static void partnerNone() {
        Run run = tractors(Run.promise(45, "NONE: none"), 0, 0);
        expectPartners(run, NONE, NONE, NONE, NONE, NONE, NONE);
        run.after("row(0, 6)").due("pairs(3, 0)", 10);
        expectPartners(run, 1, 0, NONE, NONE, NONE, NONE);
    }

    private static void partnerOfTheLatest() {
        Run run = tractors(Run.promise(45, "in PAIRS of the latest pairs() that was not refused"), 0, 0, 0, 0, 7)
            .after("row(0, 6); row(1, 5)");
        run.due("pairs(15, 0)", 10).bad("pairs(1, 0); pairs(3, 6)").finds(NOTHING, "pairs(3, 2); pairs(17, 0)")
            .finds(SIZE, "pairs(3, 1)");
        run.state("pairs(33, 0)").row(1, 9, 0, 0, 0, 0, 0).finds(UNLIKE, "pairs(3, 1)");
        expectPartners(run, 1, 0, 3, 2, NONE, NONE);
        run.due("pairs(10, 0)", 10);
        expectPartners(run, NONE, 3, NONE, 1, NONE, NONE);
    }

    private static void partnerBad() {
        Run.promise(45, "BAD").bad("partner(-1); partner(6); partner(LEAST); partner(MOST)").due("partner(5)", NONE);
    }

    // ---- promise 46

    private static void lateMinutes() {
        Run run = tractors(Run.promise(46, "so many minutes (0 .. 2000) later"), 0, 0)
            .after("trailer(0, 0, 100000); park(2, 0); hitch(2, 2)");
        run.bad("late(0, 1, 0, 0, -1, 0); late(0, 1, 0, 0, 2001, 0); late(0, 1, 0, 0, LEAST, 0)")
            .bad("late(0, 1, 0, 0, MOST, 0)");
        run.tells("late(0, 1, 0, 0, 0, 0)", 1, 20).tells("late(0, 1, 0, 0, 2000, 2009)", 1, 2)
            .tells("late(0, 1, 0, 0, 2000, 2010)", 1, 0);
    }

    private static void lateDawn() {
        Run run = tractors(Run.promise(46, "DAWN (a minute 0 .. 99999)"), 0, 0);
        run.bad("late(0, 1, 0, 0, 0, -1); late(0, 1, 0, 0, 0, 100000); late(0, 1, 0, 0, 0, LEAST)")
            .bad("late(0, 1, 0, 0, 0, MOST)");
        run.tells("late(0, 1, 0, 0, 0, 99999)", 1, 0).tells("late(0, 1, 0, 0, 0, 0)", 1, 20)
            .tells("late(0, 1, 0, 0, 0, 9)", 1, 2);
        run.tells("late(0, 1, 0, 0, 0, 10)", 1, 0).tells("late(0, 1, 0, 0, 0, 11)", 1, 0).after("later(99999)");
        run.tells("late(0, 1, 0, 0, 0, 99999)", 1, 20);
    }

    private static void lateOfTheOtherOne() {
        Run run = tractors(Run.terms("WAITS costs the other one's lateness"), 0, 1)
            .after("way(0, 1, 100, 0); way(1, 2, 30, 0)");
        run.tells("late(0, 1, 2, 1, 0, 130)", 1, 20).tells("late(0, 1, 2, 1, 5, 130)", 1, 30)
            .tells("late(1, 0, 2, 1, 0, 130)", 1, 10);
        run.tells("late(1, 0, 2, 1, 100, 130)", 1, 10).tells("late(1, 0, 2, 1, 101, 130)", 1, 11)
            .tells("late(1, 0, 0, 1, 0, 200)", 1, 10);
    }

    private static void lateCutWaits() {
        Run run = Run.terms("times its TRAILER's WORTH by 1000, cut")
            .after("trailer(0, 0, 100000); trailer(0, 0, 999); hitch(0, 0); hitch(1, 1)");
        run.tells("late(0, 1, 0, 0, 0, 9)", 1, 0).tells("late(0, 1, 0, 0, 0, 8)", 1, 1)
            .tells("late(0, 1, 0, 0, 990, 0)", 1, 999);
        run.tells("late(0, 1, 0, 0, 990, 1)", 1, 998);
    }

    private static void lateCutGoes() {
        Run run = Run.terms("GOES costs both WORTHS by 10, cut")
            .after("trailer(0, 0, 5); trailer(0, 0, 14); hitch(0, 0); hitch(1, 1)");
        run.tells("late(0, 1, 0, 0, 2000, 0)", 0, 1).after("trailer(0, 0, 6); hitch(2, 2)")
            .tells("late(2, 1, 0, 0, 2000, 0)", 0, 2);
        run.after("trailer(0, 0, 3); hitch(3, 3)").tells("late(0, 3, 0, 0, 2000, 0)", 0, 0);
    }

    private static void lateAlike() {
        Run run = Run.terms("The lesser is told (alike: WAITS).")
            .after("trailer(0, 0, 1000); trailer(0, 0, 1000); hitch(0, 0); hitch(1, 1)");
        run.tells("late(0, 1, 0, 0, 190, 0)", 1, 200).tells("late(0, 1, 0, 0, 191, 0)", 0, 200)
            .tells("late(0, 1, 0, 0, 189, 0)", 1, 199);
        run.after("trailer(0, 0, 0); trailer(0, 0, 0); hitch(2, 2); hitch(3, 3)")
            .tells("late(2, 3, 0, 0, 2000, 0)", 1, 0);
        run.tells("late(0, 2, 0, 0, 2000, 0)", 1, 0).tells("late(2, 0, 0, 0, 91, 0)", 0, 100);
    }

    private static void lateWithoutWrap() {
        Run run = Run.terms("a minute, times its TRAILER's WORTH by 1000, cut")
            .after("trailer(0, 0, 100000); trailer(0, 0, 100000)");
        run.after("hitch(0, 0); hitch(1, 1); later(24990)").tells("late(0, 1, 0, 0, 0, 0)", 0, 20000)
            .after("later(20000)");
        run.tells("late(0, 1, 0, 0, 0, 0)", 0, 20000).after("later(55009)")
            .tells("late(0, 1, 0, 0, 2000, 0)", 0, 20000);
        run.tells("late(0, 1, 0, 0, 0, 99999)", 1, 1000);
    }

    private static void lateBad() {
        Run run = tractors(Run.promise(46, "BAD; STATE; NOTHING"), 0, 0)
            .bad("late(-1, 0, 0, 0, 0, 0); late(0, 6, 0, 0, 0, 0)");
        run.bad("late(0, 1, 8, 0, 0, 0); late(0, 1, -1, 0, 0, 0); late(0, 1, 0, 8, 0, 0); late(0, 1, 0, -1, 0, 0)");
        run.bad("late(0, 0, 0, 0, 0, 0); late(4, 5, 0, 0, 2001, 0); late(4, 5, 0, 8, 0, 0); late(0, 1, 0, 7, -1, 0)");
    }

    private static void lateState() {
        Run run = tractors(Run.promise(46, "STATE; NOTHING: no way to m, or from it. (NOTHING behind STATE.)"), 0, 0)
            .after("way(0, 1, 9, 0)");
        run.state("late(0, 2, 0, 0, 0, 0); late(2, 0, 0, 0, 0, 0); late(0, 2, 0, 7, 0, 0); late(2, 0, 7, 7, 0, 0)")
            .after("go(0, 1)");
        run.state("late(0, 1, 0, 0, 0, 0); late(1, 0, 0, 0, 0, 0)").after("later(8)").state("late(0, 1, 0, 0, 0, 0)")
            .after("later(1)");
        run.tells("late(0, 1, 0, 0, 0, 28)", 1, 0).after("drop(0)")
            .state("late(0, 1, 0, 0, 0, 0); late(1, 0, 0, 0, 0, 0)");
    }

    private static void lateNothing() {
        Run run = tractors(Run.promise(46, "NOTHING: no way to m, or from it."), 0, 0, 7)
            .finds(NOTHING, "late(0, 1, 0, 1, 0, 0)");
        run.finds(NOTHING, "late(0, 1, 1, 0, 0, 0); late(0, 2, 0, 0, 0, 0); late(2, 0, 0, 0, 0, 0); late(0, 2, 7, 7, 0, 0)");
        run.tells("late(0, 1, 0, 0, 0, 0)", 1, 20).finds(NOTHING, "late(0, 1, 0, 7, 0, 99999)").due("asked()", 20);
    }
}
