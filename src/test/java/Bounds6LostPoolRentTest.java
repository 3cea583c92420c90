import java.util.Arrays;

/** The boundary cases of promises 47 to 52 and of the terms' part 6: lost ones, pools, rents. */
public final class Bounds6LostPoolRentTest {
    private static final int NONE = -9, NOTHING = 1, UNLIKE = 3, SIZE = 5;

    public static void main(String[] args) {
        canBe();
        look();
        looked();
        pool();
        rent();
        rented();
        Check.end();
    }

    private static void canBe() {
        canBeByNow();
        canBeFromTheLatestEntry();
        canBeBad();
        canBeState();
    }

    private static void look() {
        lookWeights();
        lookSixAtMost();
        lookJustWhereItCanBe();
        lookFirstByYards();
        lookMinutesTillOneComes();
        lookLeastSum();
        lookBad();
        lookState();
        lookNothingOfTheRow();
        lookSize();
        lookUnlike();
        lookFull();
        lookNoneLeads();
        lookAtNone();
    }

    private static void looked() {
        lookedNone();
        lookedOfTheLatest();
    }

    private static void pool() {
        poolNumbers();
        poolAsManyAsCanBe();
        poolLack();
        poolLeastSum();
        poolBringsOtherwise();
        poolOfItself();
        poolBad();
        poolNothing();
        poolSize();
        poolUnlike();
    }

    private static void rent() {
        rentDays();
        rentNeeds();
        rentNumbers();
        rentNoneBefore();
        rentUpToNine();
        rentFirstByDays();
        rentBad();
        rentNothing();
        rentSize();
        rentUnlike();
    }

    private static void rented() {
        rentedNone();
        rentedOfTheLatest();
    }

    /** Yards 0 to 6 in a row of ten minutes each, 7 alone; trailer 0 stands in yard 3. */
    private static Run withWays(Run run) {
        for (int y = 0; y < 6; y++) {
            run.after("way(" + y + ", " + (y + 1) + ", 10, 0)");
        }
        return run.after("trailer(0, 3, 0)");
    }

    // ---- promise 47

    private static void canBeByNow() {
        Run run = withWays(Run.terms("to which one COMES by NOW")).after("lose(0)").due("canBe(0)", 8).after("later(9)")
            .due("canBe(0)", 8);
        run.after("later(1)").due("canBe(0)", 28).after("later(9)").due("canBe(0)", 28).after("later(1)")
            .due("canBe(0)", 62);
        run.after("later(9)").due("canBe(0)", 62).after("later(1)").due("canBe(0)", 127).after("later(99000)")
            .due("canBe(0)", 127);
        run = withWays(run.anew()).after("ferry(3, 4, 100, 50); lose(0); later(59)").due("canBe(0)", 15)
            .after("later(1)").due("canBe(0)", 31);
    }

    private static void canBeFromTheLatestEntry() {
        Run run = withWays(Run.terms("from the YARD and minute of the latest entry 0 or 1 ahead of its being LOST"));
        run.after("later(10); park(5, 3); hitch(5, 0); park(5, 0); later(10); seal(0, 3); lose(0)").due("canBe(0)", 28);
        run.after("trailer(0, 6, 0); later(10)").due("canBe(0)", 62).after("find(0, 0)").state("canBe(0)")
            .after("lose(0)");
        run.due("canBe(0)", 1).after("later(9)").due("canBe(0)", 1).after("later(1)").due("canBe(0)", 3);
        withWays(run.anew().after("later(500)")).after("later(19); lose(0)").due("canBe(0)", 28);
        run = withWays(run.anew()).after("park(5, 3); hitch(5, 0); later(10); park(5, 2); drop(5); lose(0)")
            .due("canBe(0)", 4);
    }

    private static void canBeBad() {
        Run run = Run.promise(47, "BAD").bad("canBe(0)").after("trailer(0, 0, 0); lose(0)")
            .bad("canBe(1); canBe(-1); canBe(LEAST); canBe(MOST)");
    }

    private static void canBeState() {
        Run run = Run.promise(47, "STATE: it is not LOST").after("trailer(0, 7, 0)").state("canBe(0)")
            .after("park(0, 7); hitch(0, 0)");
        run.state("canBe(0)").after("lose(0)").due("canBe(0)", 128).after("find(0, 1)").state("canBe(0)");
    }

    // ---- promise 48

    private static Run looking(Run run) {
        return withWays(run).after("lose(0); later(1000)");
    }

    private static void lookWeights() {
        Run run = looking(Run.terms("with a ROW of eight weights (0 .. 100 each)")).row(0, 100, 0, 0, 1, 0, 0, 0, 100);
        run.tells("look(0, 2, 0)", 2, 100 * 20 + 50).due("looked(0)", 0).due("looked(1)", 3)
            .row(0, 0, 0, 0, 0, 0, 0, 0, 0);
        run.tells("look(0, 2, 0)", 0, 0).row(0, 101, 0, 0, 0, 0, 0, 0, 0).finds(UNLIKE, "look(0, 2, 0)");
        run.row(0, 0, 0, 0, 0, 0, 0, 0, -1).finds(UNLIKE, "look(0, 2, 0)");
    }

    private static void lookSixAtMost() {
        Run run = looking(Run.terms("in which it CAN BE (6 at most)")).row(0, 1, 1, 1, 1, 1, 1, 0, 1)
            .tells("look(0, 0, 0)", 6, 150);
        for (int i = 0; i < 6; i++) {
            run.due("looked(" + i + ")", i);
        }
        run.due("looked(6)", NONE).after("lay(0, 6, 1)").full("look(0, 0, 0)").after("lay(0, 0, 0)")
            .tells("look(0, 0, 0)", 6, 210);
        run.due("looked(5)", 6);
    }

    private static void lookJustWhereItCanBe() {
        Run run = withWays(Run.terms("to YARDS with a weight above 0 in which it CAN BE")).after("lose(0); later(10)");
        run.row(0, 100, 100, 7, 1, 3, 100, 100, 100).tells("look(0, 3, 0)", 3, 7 * 10 + 3 * 30).due("looked(0)", 3)
            .due("looked(1)", 2);
        run.after("lay(0, 3, 0); lay(0, 2, 0)").tells("look(0, 3, 0)", 1, 30).due("looked(0)", 4)
            .due("looked(1)", NONE);
    }

    private static void lookFirstByYards() {
        Run run = looking(Run.terms("of alike ones the first by YARDS")).row(0, 0, 0, 5, 0, 5, 0, 0, 0)
            .tells("look(0, 3, 0)", 2, 5 * 40);
        run.due("looked(0)", 2).due("looked(1)", 4).row(0, 0, 0, 0, 5, 0, 0, 0, 0).tells("look(0, 3, 0)", 1, 0);
        run.row(0, 0, 0, 5, 0, 5, 0, 0, 0).after("lay(0, 4, 6)").tells("look(0, 3, 0)", 2, 60 + 150)
            .due("looked(0)", 4);
        run = run.anew()
            .after("trailer(0, 0, 0); way(0, 1, 10, 0); way(0, 2, 10, 0); way(0, 3, 10, 0); way(1, 2, 10, 0)")
            .after("way(2, 3, 10, 0)");
        run.after("way(1, 3, 10, 0); lose(0); later(10)").row(0, 1, 1, 1, 1, 0, 0, 0, 0).tells("look(0, 0, 0)", 4, 60);
        for (int i = 0; i < 4; i++) {
            run.due("looked(" + i + ")", i);
        }
    }

    private static void lookMinutesTillOneComes() {
        Run run = looking(Run.terms("weight times minutes till one COMES there")).after("ferry(3, 4, 1000, 40)")
            .row(0, 0, 0, 0, 0, 2, 0, 0, 0);
        run.tells("look(0, 3, 0)", 1, 2 * 50).tells("look(0, 2, 0)", 1, 2 * 50).tells("look(0, 4, 0)", 1, 0)
            .after("later(31)");
        run.tells("look(0, 3, 0)", 1, 2 * 19).tells("look(0, 2, 0)", 1, 2 * 1019);
    }

    /** The second order is better by one, and by one worse. */
    private static void lookLeastSum() {
        Run run = Run.terms("that with the least sum of weight times minutes till one COMES there");
        run.after("way(0, 1, 7, 0); way(0, 2, 10, 0); way(1, 2, 10, 0); trailer(0, 0, 0); lose(0); later(10)");
        run.row(0, 0, 1, 2, 0, 0, 0, 0, 0).tells("look(0, 0, 0)", 2, 40).due("looked(0)", 2).due("looked(1)", 1);
        run.after("way(1, 2, 9, 0)").tells("look(0, 0, 0)", 2, 39).due("looked(0)", 1).due("looked(1)", 2);
        run.after("way(1, 2, 8, 0)").tells("look(0, 0, 0)", 2, 37).due("looked(0)", 1).due("looked(1)", 2);
    }

    private static void lookBad() {
        Run run = looking(Run.promise(48, "BAD; STATE; NOTHING: the ROW")).after("row(0, 8)")
            .bad("look(-1, 0, 0); look(1, 0, 0)");
        run.bad("look(0, -1, 0); look(0, 8, 0); look(0, 0, -1); look(0, 0, 6); look(LEAST, 0, 0); look(0, MOST, 0)")
            .bad("look(0, 0, MOST)");
        run.after("find(0, 0)").bad("look(0, 8, 0); look(0, 0, 6)");
    }

    private static void lookState() {
        Run run = withWays(Run.promise(48, "STATE behind BAD.")).state("look(0, 0, 0)").row(0, 1, 2)
            .state("look(0, 0, 0)").after("row(0, 8)");
        run.state("look(0, 0, 0)").after("park(0, 3); hitch(0, 0)").state("look(0, 0, 0)").after("lose(0)")
            .tells("look(0, 0, 0)", 0, 0);
    }

    private static void lookNothingOfTheRow() {
        Run run = looking(Run.promise(48, "NOTHING: the ROW; SIZE: not eight"))
            .finds(NOTHING, "look(0, 0, 0); look(0, 7, 5)").after("row(0, 8)");
        run.due("look(0, 0, 0)", 0).after("tear(0)").finds(NOTHING, "look(0, 0, 0)");
    }

    private static void lookSize() {
        Run run = looking(Run.promise(48, "SIZE: not eight")).after("row(0, 0)").finds(SIZE, "look(0, 0, 0)")
            .row(0, -1, 101, 0, 0, 0, 0, 0);
        run.finds(SIZE, "look(0, 0, 0)").after("row(0, 9)").finds(SIZE, "look(0, 0, 0)").after("row(0, 40)")
            .finds(SIZE, "look(0, 7, 0)");
    }

    private static void lookUnlike() {
        Run run = looking(Run.promise(48, "UNLIKE: a weight that is none")).row(0, 1, 1, 1, 1, 1, 1, 1, 101)
            .finds(UNLIKE, "look(0, 0, 0)");
        run.after("lay(0, 7, -1)").finds(UNLIKE, "look(0, 0, 0); look(0, 7, 0)").after("lay(0, 7, LEAST)")
            .finds(UNLIKE, "look(0, 0, 0)");
        run.after("lay(0, 7, MOST)").finds(UNLIKE, "look(0, 0, 0)").after("lay(0, 7, 100)").full("look(0, 0, 0)");
        run.after("lay(0, 0, -1)").finds(UNLIKE, "look(0, 0, 0)");
    }

    private static void lookFull() {
        Run run = looking(Run.promise(48, "FULL: more than six; NOTHING: a YARD to which none leads."))
            .row(0, 1, 1, 1, 1, 1, 1, 1, 0);
        run.full("look(0, 0, 0); look(0, 7, 0)").after("lay(0, 3, 0)").due("look(0, 0, 0)", 6)
            .finds(NOTHING, "look(0, 7, 0)");
    }

    private static void lookNoneLeads() {
        Run run = looking(Run.promise(48, "NOTHING: a YARD to which none leads. (In this order; STATE behind BAD.)"))
            .row(0, 0, 0, 0, 1, 0, 0, 0, 9);
        run.finds(NOTHING, "look(0, 7, 0)").due("look(0, 0, 0)", 1).after("find(0, 7); lose(0)")
            .finds(NOTHING, "look(0, 0, 0)");
        run.tells("look(0, 7, 0)", 1, 0).due("looked(0)", 7);
    }

    private static void lookAtNone() {
        Run run = looking(Run.promise(48, "how many YARDS; the sum by asked()")).row(0, 0, 0, 0, 0, 0, 0, 0, 9)
            .tells("look(0, 0, 0)", 0, 0);
        run.tells("look(0, 7, 0)", 0, 0).due("looked(0)", NONE).after("lay(0, 0, 1)").tells("look(0, 6, 0)", 1, 60);
        run.after("lay(0, 0, 0)").tells("look(0, 6, 0)", 0, 0).due("looked(0)", NONE);
    }

    // ---- promise 49

    private static void lookedNone() {
        Run run = Run.promise(49, "NONE: none such").each("looked(0); looked(-1); looked(5); looked(6)", NONE);
        looking(run).row(0, 0, 0, 1, 1, 0, 0, 0, 0).due("look(0, 3, 0)", 2).due("looked(0)", 3).due("looked(1)", 2);
        run.each("looked(2); looked(-1); looked(6); looked(LEAST); looked(MOST)", NONE);
    }

    private static void lookedOfTheLatest() {
        Run run = looking(Run.promise(49, "of the latest look() that was not refused")).row(0, 0, 0, 1, 0, 1, 0, 0, 0)
            .due("look(0, 6, 0)", 2);
        run.bad("look(0, 8, 0); look(1, 0, 0)").finds(NOTHING, "look(0, 7, 0); look(0, 0, 1)").after("row(1, 7)");
        run.finds(SIZE, "look(0, 0, 1)").row(1, 101, 0, 0, 0, 0, 0, 0, 0).finds(UNLIKE, "look(0, 0, 1)")
            .row(1, 1, 1, 1, 1, 1, 1, 1, 0);
        run.full("look(0, 0, 1)").after("trailer(0, 0, 0)").state("look(1, 0, 0)").due("looked(0)", 4)
            .due("looked(1)", 2);
        run.due("look(0, 0, 0)", 2).due("looked(0)", 2).due("looked(1)", 4).after("find(0, 0)").due("looked(1)", 4);
    }

    // ---- promise 50

    private static void poolNumbers() {
        Run run = withWays(Run.terms("a ROW of what eight YARDS have, and one of what they need (0 .. 30 each)"));
        run.row(0, 30, 0, 30, 0, 0, 0, 30, 30).row(1, 0, 30, 0, 30, 30, 30, 0, 30)
            .tells("pool(0, 1)", 30, 30 * 10 + 30 * 10 + 30 * 10);
        run.after("lay(0, 0, 31)").finds(UNLIKE, "pool(0, 1); pool(1, 0)").after("lay(0, 0, 30); lay(1, 7, 31)")
            .finds(UNLIKE, "pool(0, 1)");
        run.after("lay(1, 7, -1)").finds(UNLIKE, "pool(0, 1); pool(1, 0)");
    }

    private static void poolAsManyAsCanBe() {
        Run run = withWays(Run.terms("(as many as can be are brought)")).row(0, 0, 0, 0, 1, 0, 0, 0, 5)
            .row(1, 9, 0, 0, 0, 1, 0, 0, 0);
        run.tells("pool(0, 1)", 9, 10).row(0, 1, 0, 0, 1, 0, 0, 0, 5).row(1, 0, 0, 0, 0, 1, 0, 1, 0)
            .tells("pool(0, 1)", 0, 70);
        run.row(0, 0, 0, 0, 0, 0, 0, 0, 5).tells("pool(0, 1)", 2, 0).row(1, 0, 0, 0, 0, 0, 0, 0, 7)
            .tells("pool(0, 1)", 2, 0);
    }

    private static void poolLack() {
        Run run = withWays(Run.terms("LACK: what none can be brought for")).row(0, 1, 0, 0, 0, 0, 0, 0, 30);
        run.row(1, 0, 30, 30, 30, 30, 30, 30, 0).tells("pool(0, 1)", 179, 10).row(1, 0, 0, 0, 0, 0, 0, 1, 30);
        run.tells("pool(0, 1)", 0, 60).row(1, 1, 0, 0, 0, 0, 0, 1, 30).tells("pool(0, 1)", 1, 0);
    }

    private static void poolLeastSum() {
        Run run = withWays(Run.terms("by the least sum of minutes (COMES from NOW less NOW, one for each)"))
            .after("later(7)");
        run.row(0, 0, 0, 1, 0, 0, 0, 1, 0).row(1, 1, 0, 0, 1, 0, 0, 0, 0).tells("pool(0, 1)", 0, 20 + 30);
        run.row(0, 1, 0, 1, 0, 0, 0, 0, 0).row(1, 0, 1, 0, 1, 0, 0, 0, 0).tells("pool(0, 1)", 0, 20)
            .after("ferry(0, 1, 1000, 0)");
        run.tells("pool(0, 1)", 0, 1013).row(0, 0, 0, 2, 0, 0, 0, 0, 0).tells("pool(0, 1)", 0, 20);
    }

    /** What was brought to 2 from 0 must be brought from 1 in the end, but no more of it than was brought. */
    private static void poolBringsOtherwise() {
        Run run = Run.terms("by the least sum of minutes")
            .after("way(0, 2, 10, 0); way(0, 7, 20, 0); way(1, 2, 20, 0)");
        run.row(0, 2, 3, 0, 0, 0, 0, 0, 0).row(1, 0, 0, 1, 0, 0, 0, 0, 3).tells("pool(0, 1)", 0, 2 * 20 + 20 + 50);
        run.tells("pool(0, 1)", 0, 110).row(0, 1, 0, 0, 0, 0, 0, 0, 0).row(1, 0, 0, 1, 0, 0, 0, 0, 0)
            .tells("pool(0, 1)", 0, 10);
        run = run.anew().after("way(0, 2, 50, 0); way(1, 2, 10, 0); way(0, 7, 20, 0)");
        run.row(0, 1, 0, 0, 0, 0, 0, 0, 0).row(1, 0, 0, 1, 0, 0, 0, 0, 0).tells("pool(0, 1)", 0, 50);
        run.row(0, 1, 2, 0, 0, 0, 0, 0, 0).row(1, 0, 0, 1, 0, 0, 0, 0, 1).tells("pool(0, 1)", 0, 30);
        run.row(0, 0, 0, 0, 0, 0, 0, 0, 3).row(1, 2, 1, 0, 0, 0, 0, 0, 0).tells("pool(0, 1)", 0, 20 + 20 + 80);
    }

    private static void poolOfItself() {
        Run run = Run.terms("TRAILERS are brought from YARDS that have more to those that lack")
            .row(0, 30, 1, 2, 3, 4, 5, 6, 7);
        run.tells("pool(0, 0)", 0, 0).after("row(1, 8)").tells("pool(1, 1)", 0, 0).tells("pool(0, 1)", 0, 0)
            .tells("pool(1, 0)", 58, 0);
    }

    private static void poolBad() {
        Run run = Run.promise(50, "BAD; NOTHING").after("row(0, 8)")
            .bad("pool(-1, 0); pool(6, 0); pool(0, -1); pool(0, 6); pool(LEAST, MOST)");
        run.bad("pool(6, 1); pool(1, 6)");
    }

    private static void poolNothing() {
        Run run = Run.promise(50, "NOTHING: either ROW").after("row(0, 7)")
            .finds(NOTHING, "pool(0, 1); pool(1, 0); pool(1, 1); pool(2, 5)");
        run.row(0, 31, 0, 0, 0, 0, 0, 0, 0).finds(NOTHING, "pool(0, 1); pool(1, 0)");
    }

    private static void poolSize() {
        Run run = Run.promise(50, "SIZE: not eight").after("row(0, 8); row(1, 7); row(2, 9); row(3, 0); row(4, 40)");
        run.finds(SIZE, "pool(0, 1); pool(1, 0); pool(0, 2); pool(2, 0); pool(0, 3); pool(4, 0)")
            .after("lay(0, 0, 31)");
        run.finds(SIZE, "pool(0, 1); pool(1, 0)");
    }

    private static void poolUnlike() {
        Run run = Run.promise(50, "UNLIKE: a number that is none").after("row(0, 8); row(1, 8)");
        for (String v : new String[] {"-1", "31", "LEAST", "MOST"}) {
            run.after("lay(0, 7, " + v + ")").finds(UNLIKE, "pool(0, 1); pool(1, 0); pool(0, 0)")
                .after("lay(0, 7, 0); lay(0, 0, " + v + ")");
            run.finds(UNLIKE, "pool(0, 1)").after("lay(0, 0, 30)").tells("pool(0, 1)", 0, 0).tells("pool(1, 0)", 30, 0)
                .after("lay(0, 0, 0)");
        }
    }

    // ---- promise 51

    private static void rentDays() {
        int[] needs = new int[40];
        Arrays.fill(needs, 9);
        Run run = Run.terms("a ROW of needs by days (0 .. 9 each; 40 at most)").row(0, needs)
            .due("rent(0, 0, 1000, 1000, 1000)", 360000);
        run.due("rented(39)", 0).due("rent(0, 0, 900, 1000, 1000)", 9 * 1000 + 40 * 9 * 900).due("rented(39)", 9)
            .due("rented(40)", NONE);
        run.row(0, 9).due("rent(0, 0, 1, 1, 3)", 18).due("rented(0)", 9).due("rented(1)", NONE);
    }

    private static void rentNeeds() {
        Run run = Run.terms("a ROW of needs by days (0 .. 9 each").row(0, 0, 9, 0).due("rent(0, 0, 1, 1, 1000)", 18)
            .due("rented(0)", 0);
        run.due("rented(1)", 9).due("rented(2)", 0).row(0, 10).finds(UNLIKE, "rent(0, 0, 1, 1, 1)").row(0, 0, -1);
        run.finds(UNLIKE, "rent(0, 0, 1, 1, 1)").row(0, 5).due("rent(0, 9, 1, 1, 1)", 0).due("rent(0, 5, 1, 1, 1)", 0);
        run.due("rent(0, 4, 1, 1, 1000)", 2);
    }

    private static void rentNumbers() {
        Run run = Run.promise(51, "BAD: own 0 .. 9, p, f, l 0 .. 1000").row(0, 9);
        run.bad("rent(0, -1, 0, 0, 0); rent(0, 10, 0, 0, 0); rent(0, 0, -1, 0, 0); rent(0, 0, 1001, 0, 0)")
            .bad("rent(0, 0, 0, -1, 0)");
        run.bad("rent(0, 0, 0, 1001, 0); rent(0, 0, 0, 0, -1); rent(0, 0, 0, 0, 1001); rent(0, LEAST, 0, 0, 0)")
            .bad("rent(0, MOST, 0, 0, 0)");
        run.bad("rent(0, 0, LEAST, 0, 0); rent(0, 0, MOST, 0, 0); rent(0, 0, 0, LEAST, 0); rent(0, 0, 0, MOST, 0)");
        run.bad("rent(0, 0, 0, 0, LEAST); rent(0, 0, 0, 0, MOST)").due("rent(0, 9, 1000, 1000, 1000)", 0);
        run.due("rent(0, 0, 1000, 0, 1000)", 9000).due("rent(0, 0, 0, 1000, 1000)", 9000)
            .due("rent(0, 8, 0, 0, 1000)", 0).due("rented(0)", 1);
    }

    private static void rentNoneBefore() {
        Run run = Run.terms("to have 0 to 9 rented ones each day (none before)").row(0, 2, 2)
            .due("rent(0, 0, 3, 10, 1000)", 32);
        run.due("rented(0)", 2).due("rented(1)", 2).row(0, 2, 0, 2).due("rent(0, 0, 3, 3, 1000)", 24)
            .due("rented(1)", 0);
        run.due("rent(0, 0, 3, 2, 1000)", 20).due("rent(0, 0, 3, 4, 4)", 16).due("rented(0)", 0);
    }

    private static void rentUpToNine() {
        Run run = Run.terms("to have 0 to 9 rented ones each day").row(0, 9, 9).due("rent(0, 0, 0, 0, 1)", 0)
            .due("rented(0)", 9);
        run.due("rented(1)", 9).due("rent(0, 0, 0, 0, 0)", 0).due("rented(0)", 0).due("rented(1)", 0);
    }

    private static void rentFirstByDays() {
        Run run = Run.terms("of alike ones the first by days (the fewest on the first day, then on the second)")
            .row(0, 2, 0, 2);
        run.due("rent(0, 0, 5, 5, 1000)", 40).due("rented(1)", 0).row(0, 1, 1).due("rent(0, 0, 5, 5, 10)", 15)
            .due("rented(0)", 1);
        run.due("rent(0, 0, 5, 10, 10)", 20).due("rented(0)", 0).due("rented(1)", 0).row(0, 0, 1)
            .due("rent(0, 0, 0, 5, 1000)", 5);
        run.due("rented(0)", 0).due("rented(1)", 1);
    }

    private static void rentBad() {
        Run run = Run.promise(51, "BAD: own 0 .. 9, p, f, l 0 .. 1000; NOTHING; SIZE").after("row(0, 0)")
            .bad("rent(-1, 0, 0, 0, 0); rent(6, 0, 0, 0, 0)");
        run.bad("rent(1, 10, 0, 0, 0); rent(0, 0, 1001, 0, 0); rent(1, 0, 0, 1001, 0); rent(0, 0, 0, 0, 1001)")
            .row(0, 10).bad("rent(0, 10, 0, 0, 0)");
    }

    private static void rentNothing() {
        Run run = Run.promise(51, "NOTHING; SIZE").finds(NOTHING, "rent(0, 0, 0, 0, 0); rent(5, 9, 1000, 1000, 1000)")
            .row(0, 1);
        run.due("rent(0, 0, 0, 0, 0)", 0).after("tear(0)").finds(NOTHING, "rent(0, 0, 0, 0, 0)");
    }

    private static void rentSize() {
        Run.promise(51, "SIZE: no days").after("row(0, 0)").finds(SIZE, "rent(0, 0, 0, 0, 0)").row(0, 10, 1)
            .after("row(0, 0)").finds(SIZE, "rent(0, 9, 1, 1, 1)");
    }

    private static void rentUnlike() {
        Run run = Run.promise(51, "UNLIKE: a need that is none").row(0, 0, 0, 10).finds(UNLIKE, "rent(0, 0, 0, 0, 0)")
            .row(0, -1, 0, 0);
        run.finds(UNLIKE, "rent(0, 9, 1, 1, 1)").row(0, 0, Integer.MAX_VALUE).finds(UNLIKE, "rent(0, 0, 0, 0, 0)");
        run.row(0, Integer.MIN_VALUE, 9).finds(UNLIKE, "rent(0, 0, 0, 0, 0)");
    }

    // ---- promise 52

    private static void rentedNone() {
        Run run = Run.promise(52, "NONE: none such").each("rented(0); rented(-1); rented(39); rented(40)", NONE)
            .row(0, 3, 2);
        run.due("rent(0, 0, 1, 1, 1000)", 8).due("rented(0)", 3).due("rented(1)", 2);
        run.each("rented(2); rented(-1); rented(40); rented(LEAST); rented(MOST)", NONE);
    }

    private static void rentedOfTheLatest() {
        Run run = Run.promise(52, "by the latest rent() that was not refused").row(0, 3, 2).row(1, 10)
            .after("row(2, 0)");
        run.due("rent(0, 0, 1, 1, 1000)", 8).bad("rent(0, 10, 1, 1, 1); rent(6, 0, 1, 1, 1)")
            .finds(NOTHING, "rent(3, 0, 1, 1, 1)");
        run.finds(SIZE, "rent(2, 0, 1, 1, 1)").finds(UNLIKE, "rent(1, 0, 1, 1, 1)").due("rented(0)", 3)
            .due("rented(1)", 2);
        run.due("rent(0, 3, 1, 1, 1)", 0).due("rented(0)", 0).row(0, 1).due("rented(1)", 0)
            .due("rent(0, 0, 1, 1, 9)", 2);
        run.due("rented(0)", 1).due("rented(1)", NONE);
    }
}
