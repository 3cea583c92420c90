/** The boundary cases of promises 28 to 31 and of the terms' part 3: terms, detention. */
public final class Bounds3TermsTest {
    private static final int NOTHING = 1;

    public static void main(String[] args) {
        terms();
        inForce();
        detention();
        pence();
        Check.end();
    }

    private static void terms() {
        termsOfNone();
        termsDays();
        termsToldOnTheDayOfNow();
        termsBad();
        termsFull();
        termsNothing();
        termsFault();
        termsNumbers();
        termsKept();
    }

    private static void inForce() {
        noneInForce();
        toldOnTheLatterOrAhead();
        fromTheFormerOrAhead();
        latestFromDay();
        toldLastOfAlikeOnes();
        lastItem();
        allAboutTheSameThing();
        forceBad();
        forceYardNotLookedAt();
    }

    private static void detention() {
        detentionBeyondFree();
        detentionHoursBegun();
        detentionTillHitchedOrLost();
        detentionTillNow();
        detentionByDayOfEntry();
        detentionOfEachTime();
        detentionWithoutPence();
        detentionBad();
    }

    private static void pence() {
        penceBefore();
        penceOfTheLatest();
        penceOfMuch();
    }

    // ---- promise 28

    private static void termsOfNone() {
        Run run = Run.terms("TERMS are a TEXT's items, with blanks (32) ahead, between, behind as many as wanted");
        run.after("text(0, 0); text(1, 40)").due("terms(0, 0)", 0).due("terms(1, 0)", 1).due("count(4)", 2);
        run.due("force(2, 0, 0, 0)", 600).text(2, "  H7   R8  F01D02 ").due("terms(2, 0)", 2)
            .due("force(2, 0, 0, 0)", 7);
        run.due("force(3, 0, 0, 0)", 8).due("force(0, 0, 0, 0)", 1).due("force(1, 0, 0, 0)", 2);
    }

    private static void termsDays() {
        Run run = Run.promise(28, "in force from a DAY (0 .. 69) on").text(0, "H7").due("terms(0, 69)", 0);
        run.due("force(2, 0, 68, 69)", 600).due("force(2, 0, 69, 69)", 7).due("terms(0, 0)", 1)
            .due("force(2, 0, 0, 0)", 7);
    }

    private static void termsToldOnTheDayOfNow() {
        Run run = Run.terms("told on a DAY (that of NOW), in force from a DAY on").after("later(1439)").told("H7", 3)
            .after("later(1)");
        run.told("H8", 3).due("force(2, 0, 3, 0)", 7).due("force(2, 0, 3, 1)", 8).due("force(2, 0, 2, 1)", 600);
        run.after("later(98559)").told("H9", 0).due("force(2, 0, 0, 68)", 600).due("force(2, 0, 0, 69)", 9);
    }

    private static void termsBad() {
        Run run = Run.promise(28, "BAD; FULL; NOTHING; STATE").text(0, "H7")
            .bad("terms(0, -1); terms(0, 70); terms(0, LEAST)");
        run.bad("terms(0, MOST); terms(-1, 0); terms(4, 0); terms(1, 70); terms(1, -1)").text(1, "H")
            .bad("terms(1, 70)");
    }

    private static void termsFull() {
        Run run = Run.terms("(20 TERMS at most ever)").text(0, "H7").text(1, "H").times(19, "terms(0, 0)")
            .due("terms(0, 0)", 19);
        run.full("terms(0, 0); terms(1, 0); terms(2, 0)").bad("terms(0, 70); terms(4, 0)").due("count(4)", 20);
    }

    private static void termsNothing() {
        Run run = Run.promise(28, "NOTHING; STATE: the TEXT has a FAULT. (STATE behind NOTHING.)")
            .finds(NOTHING, "terms(0, 0)");
        run.finds(NOTHING, "terms(3, 69)").text(3, "H").state("terms(3, 69)").finds(NOTHING, "terms(2, 0)");
    }

    private static void termsFault() {
        Run run = Run.promise(28, "STATE: the TEXT has a FAULT");
        for (String signs : new String[] {"F", "H7R", "H7x", "H12345", "F81", "D0 1", "7"}) {
            run.text(0, signs).state("terms(0, 0)");
        }
        run.text(0, "H7").due("terms(0, 0)", 0);
    }

    private static void termsNumbers() {
        Run run = Run.terms("D (68) y n: then n pence are owed for each hour begun (one to four digits)");
        run.text(0, "F00F10001F79999D00D1012D79999H0").after("terms(0, 0)");
        run.due("force(0, 0, 0, 0)", 0).due("force(0, 1, 0, 0)", 1).due("force(0, 7, 0, 0)", 9999);
        run.due("force(1, 0, 0, 0)", 0).due("force(1, 1, 0, 0)", 12).due("force(1, 7, 0, 0)", 9999)
            .due("force(2, 0, 0, 0)", 0);
        run.told("H9999R0090", 0).due("force(2, 0, 0, 0)", 9999).due("force(3, 0, 0, 0)", 90);
        run.told("R1F2999D2100", 0).due("force(3, 0, 0, 0)", 1).due("force(0, 2, 0, 0)", 999)
            .due("force(1, 2, 0, 0)", 100);
    }

    private static void termsKept() {
        Run run = Run.promise(28, "their number").text(0, "H7").due("terms(0, 0)", 0).text(0, "H8")
            .due("force(2, 0, 0, 0)", 7);
        run.due("terms(0, 0)", 1).due("fault(0)", -9).text(1, "H9").due("fault(1)", -9).due("force(2, 0, 0, 0)", 8);
    }

    // ---- in force, promise 29

    private static void noneInForce() {
        Run run = Run.terms("None: F y 120, D y 0, H 600, R 480.");
        for (int y = 0; y < 8; y++) {
            run.due("force(0, " + y + ", 0, 0)", 120).due("force(1, " + y + ", 69, 69)", 0);
        }
        run.due("force(2, 0, 0, 0)", 600).due("force(3, 0, 69, 69)", 480).told("F01D01", 0);
        run.due("force(0, 1, 0, 0)", 120).due("force(1, 7, 0, 0)", 0).due("force(2, 0, 0, 0)", 600)
            .due("force(3, 0, 0, 0)", 480);
    }

    private static void toldOnTheLatterOrAhead() {
        Run run = Run.terms("of TERMS told on the latter or ahead of it").after("later(2880)").told("H7", 0);
        run.due("force(2, 0, 0, 1)", 600).due("force(2, 0, 0, 2)", 7).due("force(2, 0, 0, 3)", 7)
            .due("force(2, 0, 0, 69)", 7);
        run.due("force(2, 0, 69, 0)", 600);
    }

    private static void fromTheFormerOrAhead() {
        Run run = Run.terms("in force from the former or ahead of it").told("H7", 5).due("force(2, 0, 4, 0)", 600);
        run.due("force(2, 0, 5, 0)", 7).due("force(2, 0, 6, 0)", 7).due("force(2, 0, 69, 0)", 7)
            .due("force(2, 0, 0, 69)", 600);
    }

    private static void latestFromDay() {
        Run run = Run.terms("the last item of the TERMS with the latest from-DAY").told("H7", 5).told("H8", 4)
            .told("H9", 6);
        run.due("force(2, 0, 3, 0)", 600).due("force(2, 0, 4, 0)", 8).due("force(2, 0, 5, 0)", 7)
            .due("force(2, 0, 6, 0)", 9);
        run.after("later(1440)").told("H10", 5).due("force(2, 0, 5, 0)", 7).due("force(2, 0, 5, 1)", 10)
            .due("force(2, 0, 6, 1)", 9);
    }

    private static void toldLastOfAlikeOnes() {
        Run run = Run.terms("of alike ones of those told last").told("H7", 5).told("H8", 5).due("force(2, 0, 5, 0)", 8);
        run.after("later(1440)").told("H9", 5).due("force(2, 0, 5, 0)", 8).due("force(2, 0, 5, 1)", 9).told("R1", 5);
        run.due("force(2, 0, 69, 69)", 9);
    }

    private static void lastItem() {
        Run run = Run.terms("the last item of the TERMS").told("H1H2F31F32D35F34D36R1H3R2", 0)
            .due("force(2, 0, 0, 0)", 3);
        run.due("force(0, 3, 0, 0)", 4).due("force(1, 3, 0, 0)", 6).due("force(3, 0, 0, 0)", 2);
    }

    private static void allAboutTheSameThing() {
        Run run = Run.terms("of all items about the same thing").told("H7", 3).told("R8", 4).told("F29", 5);
        run.due("force(2, 0, 5, 0)", 7).due("force(3, 0, 5, 0)", 8).due("force(0, 2, 5, 0)", 9)
            .due("force(1, 2, 5, 0)", 0);
        run.due("force(0, 1, 5, 0)", 120).due("force(0, 3, 5, 0)", 120);
    }

    private static void forceBad() {
        Run run = Run.promise(29, "as known on one (0 .. 69). BAD.").bad("force(-1, 0, 0, 0); force(4, 0, 0, 0)");
        run.bad("force(LEAST, 0, 0, 0); force(MOST, 0, 0, 0)");
        String[] outside = {"-1", "70", "LEAST", "MOST"};
        run.badWith(outside, "force(0, 0, #, 0); force(1, 0, #, 0); force(2, 0, #, 0); force(3, 0, #, 0)");
        run.badWith(outside, "force(0, 0, 0, #); force(1, 0, 0, #); force(2, 0, 0, #); force(3, 0, 0, #)");
        run.bad("force(0, -1, 0, 0); force(0, 8, 0, 0); force(1, -1, 0, 0); force(1, 8, 0, 0); force(0, LEAST, 0, 0)");
        run.due("force(0, 7, 69, 0)", 120).due("force(1, 0, 0, 69)", 0);
    }

    private static void forceYardNotLookedAt() {
        Run run = Run.promise(29, "2 H, 3 R; of these the YARD is not looked at").told("H7R8", 0);
        for (String y : new String[] {"-1", "8", "LEAST", "MOST", "0", "7"}) {
            run.due("force(2, " + y + ", 0, 0)", 7).due("force(3, " + y + ", 0, 0)", 8);
        }
        run.bad("force(2, 8, 70, 0); force(3, -1, 0, 70)");
    }

    // ---- promise 30

    private static Run owing(Run run, String signs) {
        return run.told(signs, 0).after("trailer(0, 0, 0)");
    }

    private static Run expect(Run run, int times, int pence) {
        return run.due("detention(0)", times).due("pence()", pence);
    }

    private static void detentionBeyondFree() {
        Run run = Run.terms("minutes beyond those that are free there");
        expect(owing(run, "D05").after("later(120)"), 0, 0);
        expect(run.after("later(1)"), 1, 5);
        run = owing(run.anew(), "F00D05");
        expect(run, 0, 0);
        expect(run.after("later(1)"), 1, 5);
        run = owing(run.anew(), "F09999D05").after("later(9999)");
        expect(run, 0, 0);
        expect(run.after("later(1)"), 1, 5);
    }

    private static void detentionHoursBegun() {
        Run run = owing(Run.terms("hours begun (cut up)"), "F0100D07").after("later(101)");
        expect(run, 1, 7);
        expect(run.after("later(58)"), 1, 7);
        expect(run.after("later(1)"), 1, 7);
        expect(run.after("later(1)"), 1, 14);
        expect(run.after("later(59)"), 1, 14);
        expect(run.after("later(1)"), 1, 21);
    }

    private static void detentionTillHitchedOrLost() {
        Run run = owing(Run.terms("from an entry 0 till the next entry 1 or 2"), "F00D07D11F10")
            .after("later(60); hitch(0, 0); later(500)");
        expect(run, 1, 7);
        run = owing(run.anew(), "F00D07").after("later(60); lose(0); later(500)");
        expect(run, 1, 7);
        run = owing(run.anew(), "F00D07").after("seal(0, 3); later(60); seal(0, 4); later(1); seal(0, 5); later(60)");
        expect(run, 1, 21);
        run = owing(run.anew(), "F00D07")
            .after("trailer(0, 0, 0); later(30); hitch(0, 1); later(30); lose(1); later(1)");
        expect(run, 1, 14);
        run.due("detention(1)", 1).due("pence()", 7);
    }

    private static void detentionTillNow() {
        Run run = owing(Run.terms("(or till NOW)"), "F00D07").after("later(60)");
        expect(run, 1, 7);
        expect(run.after("later(1)"), 1, 14);
        expect(run.after("lose(0); find(0, 0)"), 1, 14);
        expect(run.after("later(61)"), 2, 28);
    }

    private static void detentionByDayOfEntry() {
        Run run = Run.terms("as IN FORCE for the DAY of that entry 0, as known on it").told("F00D07", 0).told("D09", 1);
        run.after("later(1439); trailer(0, 0, 0)").told("D08", 0).after("later(60)");
        expect(run, 1, 8);
        expect(run.told("D01", 0), 1, 8);
        expect(run.told("F09999", 0), 1, 8);
        run.after("hitch(0, 0); drop(0); later(1)");
        expect(run, 1, 8);
        run.told("F00", 1).due("force(1, 0, 1, 1)", 9);
        expect(run, 2, 17);
    }

    private static void detentionOfEachTime() {
        Run run = owing(Run.promise(30, "how many times it stood beyond what is free"), "F010D07F310D39")
            .after("later(10); hitch(0, 0)");
        expect(run, 0, 0);
        expect(run.after("drop(0); later(11); hitch(0, 0); park(0, 3); drop(0); later(10)"), 1, 7);
        expect(run.after("later(1)"), 2, 16);
        expect(run.after("later(60)"), 2, 25);
    }

    private static void detentionWithoutPence() {
        Run run = Run.promise(30, "how many times it stood beyond what is free").after("trailer(0, 0, 0); later(121)");
        expect(run, 1, 0);
        run.told("D05D15", 0);
        expect(run, 1, 5);
    }

    private static void detentionBad() {
        Run run = Run.promise(30, "BAD").bad("detention(0)").after("trailer(0, 0, 0)")
            .bad("detention(1); detention(-1)");
        run.bad("detention(LEAST); detention(MOST)");
    }

    // ---- promise 31

    private static void penceBefore() {
        Run.promise(31, "0 before").due("pence()", 0).bad("detention(0)").due("pence()", 0);
    }

    private static void penceOfTheLatest() {
        Run run = owing(Run.promise(31, "What the latest detention() that was not refused told"), "F00D07")
            .after("later(1)");
        run.due("pence()", 0).due("detention(0)", 1).due("pence()", 7).bad("detention(1)").due("pence()", 7);
        run.after("trailer(0, 1, 0)").due("detention(1)", 0).due("pence()", 0).due("detention(0)", 1).due("pence()", 7);
        run.after("later(60)").due("pence()", 7);
    }

    private static void penceOfMuch() {
        Run run = owing(Run.promise(31, "pence()"), "F00D09999").after("later(99999)").due("detention(0)", 1);
        run.due("pence()", 1667 * 9999);
    }
}
