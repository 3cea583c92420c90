/** The boundary cases of promises 1 to 13 and of the terms' part 1: rows, texts, yards. */
public final class Bounds1RowsTextsYardsTest {
    private static final int NONE = -9, NOTHING = 1, BEYOND = 2, SIZE = 5;

    public static void main(String[] args) {
        terms();
        newObject();
        row();
        lay();
        tear();
        copy();
        text();
        put();
        fault();
        later();
        way();
        ferry();
        comes();
        toll();
        Check.end();
    }

    private static void terms() {
        rowsAreNumbered();
        rowsHoldInts();
        textsAreNumbered();
        textsHoldBytes();
        missingAtFirst();
        nowGoesOn();
        dayIsCut();
        yardsAreNumbered();
        waysLeadBothWays();
        ferryEveryAndFirst();
        ferryGoesJustThen();
        comesToItself();
    }

    private static void newObject() {
        allIsEmpty();
        tractorsInYardNought();
        nowAtFirst();
        lawAtFirst();
    }

    private static void row() {
        rowSizes();
        rowAbove40();
        rowBelowNought();
    }

    private static void lay() {
        layBad();
        layNothing();
        layBeyond();
    }

    private static void tear() {
        tearBad();
        tearNothing();
    }

    private static void copy() {
        copyAsIfTakenAhead();
        copyPerhapsItself();
        copyBad();
        copySize();
        copyNothing();
        copyBeyond();
        copyBeyondWithoutWrap();
        copyOfNone();
    }

    private static void text() {
        textBlanks();
        textAbove40();
        textBelowNought();
    }

    private static void put() {
        putCutToByte();
        putThousandMore();
        putBad();
        putNothing();
        putBeyond();
    }

    private static void fault() {
        faultBlanks();
        faultYardDigit();
        faultNumberDigits();
        faultAtTheEnd();
        faultFirstPlace();
        faultNone();
        faultBad();
        faultNothing();
    }

    private static void later() {
        laterByNone();
        laterBelowNought();
        laterBeyond();
    }

    private static void way() {
        wayBounds();
        wayOfOneYard();
        wayAnew();
    }

    private static void ferry() {
        ferryBounds();
        ferryNothing();
        ferryAnew();
    }

    private static void comes() {
        comesByAnyWays();
        comesBounds();
        comesBad();
        comesNothing();
    }

    private static void toll() {
        tollWhateverTheMinutes();
        tollToItself();
        tollBad();
        tollNothing();
    }

    // ---- terms, part 1

    private static void rowsAreNumbered() {
        Run run = Run.terms("ROWS 0 .. 5 are rows");
        for (int r = 0; r <= 5; r++) {
            run.due("row(" + r + ", 1)", 1);
        }
        run.due("count(6)", 6).after("trailer(1, 0, 0); park(0, 0)");
        String[] outside = {"-1", "6", "LEAST", "MOST"};
        run.badWith(outside, "row(#, 1); lay(#, 0, 1); tear(#); mean(#); cold(0, #, 0)");
        run.badWith(outside, "copy(#, 0, 0, 0, 0); copy(0, 0, #, 0, 0)");
        run.badWith(outside, "pairs(3, #); look(0, 0, #); pool(0, #); pool(#, 0)");
        run.badWith(outside, "rent(#, 0, 0, 0, 0)");
    }

    private static void rowsHoldInts() {
        Run run = Run.terms("rows of 0 to 40 ints");
        run.due("row(0, 0)", 0).due("row(1, 40)", 40).bad("row(1, 41)").finds(SIZE, "row(0, -1)");
        run.due("lay(1, 39, LEAST)", 1).tells("lay(1, 39, MOST)", 1, Integer.MIN_VALUE);
        run.tells("lay(1, 39, -1)", 1, Integer.MAX_VALUE).tells("lay(1, 39, 0)", 1, -1);
    }

    private static void textsAreNumbered() {
        Run run = Run.terms("TEXTS 0 .. 3 rows");
        for (int t = 0; t <= 3; t++) {
            run.due("text(" + t + ", 1)", 1);
        }
        run.due("count(7)", 4);
        String[] outside = {"-1", "4", "LEAST", "MOST"};
        run.badWith(outside, "text(#, 1); put(#, 0, 1); fault(#); terms(#, 0)");
    }

    private static void textsHoldBytes() {
        Run run = Run.terms("rows of 0 to 40 bytes");
        run.due("text(0, 0)", 0).due("text(1, 40)", 40).bad("text(1, 41)").finds(SIZE, "text(0, -1)");
        run.due("put(1, 39, 127)", 1032).due("put(1, 39, -128)", 1127).due("put(1, 39, 0)", 872);
    }

    private static void missingAtFirst() {
        Run run = Run.terms("or missing (at first)");
        run.due("count(6)", 0).due("count(7)", 0);
        for (int r = 0; r <= 5; r++) {
            run.finds(NOTHING, "tear(" + r + ")");
        }
        for (int t = 0; t <= 3; t++) {
            run.finds(NOTHING, "fault(" + t + ")");
        }
        run.anew().due("row(0, 0)", 0).due("count(6)", 1).due("text(0, 0)", 0).due("count(7)", 1);
    }

    private static void nowGoesOn() {
        Run run = Run.terms("NOW is a minute (0 .. 99999; 0 at first), which only goes on");
        run.due("count(0)", 0).due("later(99999)", 99999).bad("later(1); later(-1); later(-99999)");
        run.due("count(0)", 99999);
    }

    private static void dayIsCut() {
        Run run = Run.terms("DAY of a minute: it by 1440, cut.");
        run.after("trailer(2, 0, 0)").due("later(1439)", 1439).due("mark(0, 2)", 0).after("trailer(2, 0, 0)");
        run.told("H1", 0).after("later(1); trailer(2, 0, 0)").told("H2", 0);
        run.due("mark(0, 2)", 1).due("mark(1, 2)", 1).due("mark(2, 2)", 0);
        run.due("force(2, 0, 0, 0)", 1).due("force(2, 0, 0, 1)", 2);
        run.due("later(1439)", 2879).due("mark(0, 2)", 1).due("later(97120)", 99999).due("mark(0, 2)", 69);
    }

    private static void yardsAreNumbered() {
        Run run = Run.terms("YARDS 0 .. 7.");
        run.after("way(0, 7, 1, 0); trailer(0, 0, 0); trailer(0, 7, 0); hitch(0, 0); park(1, 7); hitch(1, 1)");
        run.after("trailer(0, 0, 0); lose(2); row(0, 8)");
        String[] outside = {"-1", "8", "LEAST", "MOST"};
        run.badWith(outside, "way(0, #, 1, 0); way(#, 0, 1, 0); ferry(0, #, 1, 0); ferry(#, 0, 1, 0)");
        run.badWith(outside, "comes(0, 0, #); comes(#, 0, 0); toll(0, #); toll(#, 0)");
        run.badWith(outside, "trailer(0, #, 0); park(0, #); go(0, #); find(2, #)");
        run.badWith(outside, "force(0, #, 0, 0); force(1, #, 0, 0); look(2, #, 0)");
        run.badWith(outside, "swap(0, 1, #, 0); swap(0, 1, 0, #)");
        run.badWith(outside, "late(0, 1, #, 0, 0, 0); late(0, 1, 0, #, 0, 0)");
        run.due("look(2, 7, 0)", 0).due("swap(0, 1, 7, 7)", 7).due("late(0, 1, 7, 7, 0, 0)", 1);
        run.due("force(0, 7, 0, 0)", 120).due("find(2, 7)", 1).due("go(0, 7)", 1).due("park(1, 0)", 1);
    }

    private static void waysLeadBothWays() {
        Run run = Run.terms("both ways alike: so many minutes (1 .. 600) and a TOLL (0 .. 999); none at first.");
        run.due("count(3)", 0);
        for (int y = 1; y < 8; y++) {
            run.finds(NOTHING, "comes(0, 0, " + y + "); toll(" + y + ", 0)");
        }
        run = run.anew().due("way(6, 2, 600, 999)", 1).due("comes(6, 0, 2)", 600).due("comes(2, 0, 6)", 600);
        run.due("toll(6, 2)", 999).due("toll(2, 6)", 999).due("ferry(2, 6, 50, 7)", 1);
        run.due("comes(6, 8, 2)", 657).due("comes(2, 8, 6)", 657);
        run.bad("way(6, 2, 0, 0); way(6, 2, 601, 0); way(6, 2, 1, -1); way(6, 2, 1, 1000)");
    }

    private static void ferryEveryAndFirst() {
        Run run = Run.terms("(a WAY with every E, 1 .. 1440, and first F, 0 .. E - 1)").after("way(0, 1, 1, 0)");
        int[][] ferries = {{1, 0}, {2, 0}, {2, 1}, {1440, 0}, {1440, 1439}};
        for (int[] f : ferries) {
            run.due("ferry(0, 1, " + f[0] + ", " + f[1] + ")", 1).due("comes(0, 0, 1)", f[1] + 1);
            run.due("comes(0, " + (f[1] + 1) + ", 1)", f[1] + f[0] + 1).bad("ferry(0, 1, " + f[0] + ", " + f[0] + ")");
        }
        run.bad("ferry(0, 1, 0, 0); ferry(0, 1, 1441, 0); ferry(0, 1, 5, -1)");
    }

    private static void ferryGoesJustThen() {
        Run run = Run.terms("one goes just at minutes F, F and E, F and 2 E, ..; who comes between waits.");
        run.after("way(0, 1, 10, 0); ferry(0, 1, 100, 30)");
        int[][] comes = {{0, 40}, {29, 40}, {30, 40}, {31, 140}, {129, 140}, {130, 140}, {131, 240}, {230, 240}, {231, 340},
            {99929, 99940}, {99930, 99940}, {99931, 100040}, {99999, 100040}};
        for (int[] c : comes) {
            run.due("comes(0, " + c[0] + ", 1)", c[1]).due("comes(1, " + c[0] + ", 0)", c[1]);
        }
        run.after("way(1, 2, 20, 0)").due("comes(2, 10, 0)", 40).due("comes(2, 11, 0)", 140);
    }

    private static void comesToItself() {
        Run run = Run.terms("(to itself: that minute)");
        run.due("comes(7, 0, 7)", 0).due("comes(0, 99999, 0)", 99999).after("way(0, 1, 5, 0); ferry(0, 1, 9, 8)");
        run.due("comes(0, 3, 0)", 3).due("comes(1, 3, 1)", 3);
    }

    // ---- promise 1

    private static void allIsEmpty() {
        Run run = Run.promise(1, "No ROWS, TEXTS, WAYS, TRAILERS");
        run.due("count(6)", 0).due("count(7)", 0).due("count(3)", 0).due("count(1)", 0).bad("told(0, 0)");
        run.due("count(2)", 0).due("count(4)", 0).due("count(5)", 0);
    }

    private static void tractorsInYardNought() {
        Run run = Run.promise(1, "TRACTORS in YARD 0");
        for (int k = 0; k < 6; k++) {
            run.tells("tractor(" + k + ", 0)", 1, 0).tells("tractor(" + k + ", 1)", 1, 0);
            run.tells("tractor(" + k + ", 2)", 1, NONE).tells("tractor(" + k + ", 3)", 1, 0);
            run.tells("tractor(" + k + ", 4)", 1, 0);
        }
    }

    private static void nowAtFirst() {
        Run.promise(1, "NOW 0").due("count(0)", 0).due("later(0)", 0);
    }

    private static void lawAtFirst() {
        Run run = Run.promise(1, "MA, MK 20000").after("trailer(0, 0, 0)");
        run.after("load(0, 20000, 100)").due("lawful(0)", 1).after("load(0, 1, 100)").due("lawful(0)", 0);
        run.after("unload(0); load(0, 20000, 0)").due("lawful(0)", 1).after("load(0, 1, 0)").due("lawful(0)", 0);
    }

    // ---- promise 2

    private static void rowSizes() {
        Run run = Run.promise(2, "A ROW is there with n ints 0: n.").row(2, 5, 6, 7).due("row(2, 3)", 3);
        for (int i = 0; i < 3; i++) {
            run.asks("lay(2, " + i + ", 0)", 0);
        }
        run.finds(BEYOND, "lay(2, 3, 0)").due("row(2, 0)", 0).finds(BEYOND, "lay(2, 0, 0)").due("row(2, 40)", 40);
        for (int i = 0; i < 40; i++) {
            run.asks("lay(2, " + i + ", 9)", 0);
        }
    }

    private static void rowAbove40() {
        Run run = Run.promise(2, "BAD: also n above 40").due("row(5, 40)", 40).bad("row(5, 41); row(5, MOST)");
        run.bad("row(6, 41); row(-1, 41)").finds(BEYOND, "lay(5, 40, 0)");
    }

    private static void rowBelowNought() {
        Run run = Run.promise(2, "SIZE: below 0").row(5, 7).finds(SIZE, "row(5, -1); row(5, LEAST); row(4, -1)");
        run.bad("row(6, -1); row(-1, LEAST)").asks("lay(5, 0, 0)", 7);
    }

    // ---- promise 3

    private static void layBad() {
        Run run = Run.promise(3, "BAD; NOTHING; BEYOND.")
            .bad("lay(-1, 0, 0); lay(6, 0, 0); lay(LEAST, 99, 0); lay(MOST, 0, 0)");
        run.tells("asked()", 0, 0);
    }

    private static void layNothing() {
        Run run = Run.promise(3, "NOTHING; BEYOND").finds(NOTHING, "lay(0, 0, 5); lay(5, -1, 5); lay(5, 40, 5)");
        run.row(5, 1).after("tear(5)").finds(NOTHING, "lay(5, 0, 5)");
    }

    private static void layBeyond() {
        Run run = Run.promise(3, "BEYOND").row(0, 4, 5).tells("lay(0, 1, 6)", 1, 5).tells("lay(0, 0, 3)", 1, 4);
        run.finds(BEYOND, "lay(0, 2, 7); lay(0, -1, 7); lay(0, LEAST, 7); lay(0, MOST, 7)");
        run.after("row(0, 0)").finds(BEYOND, "lay(0, 0, 7)");
    }

    // ---- promise 4

    private static void tearBad() {
        Run.promise(4, "BAD").bad("tear(-1); tear(6); tear(LEAST); tear(MOST)");
    }

    private static void tearNothing() {
        Run run = Run.promise(4, "NOTHING").finds(NOTHING, "tear(0); tear(5)").after("row(5, 0)").due("tear(5)", 1);
        run.finds(NOTHING, "tear(5)").row(5, 8).due("tear(5)", 1).due("row(5, 1)", 1).asks("lay(5, 0, 1)", 0);
    }

    // ---- promise 5

    private static void copyAsIfTakenAhead() {
        Run run = Run.promise(5, "as if taken ahead").row(0, 1, 2, 3, 4, 5).due("copy(0, 0, 0, 1, 4)", 1);
        expectRow(run, 0, 1, 1, 2, 3, 4);
        run.row(0, 1, 2, 3, 4, 5).due("copy(0, 1, 0, 0, 4)", 1);
        expectRow(run, 0, 2, 3, 4, 5, 5);
    }

    private static void copyPerhapsItself() {
        Run run = Run.promise(5, "another one (perhaps itself)").row(0, 1, 2, 3).row(1, 7, 8, 9);
        run.due("copy(0, 0, 0, 0, 3)", 1).due("copy(0, 1, 1, 0, 2)", 1);
        expectRow(run, 1, 2, 3, 9);
        expectRow(run, 0, 1, 2, 3);
    }

    private static void expectRow(Run run, int r, int... want) {
        for (int i = 0; i < want.length; i++) {
            run.asks("lay(" + r + ", " + i + ", 0)", want[i]);
        }
    }

    private static void copyBad() {
        Run run = Run.promise(5, "BAD; SIZE").row(0, 1);
        run.bad("copy(-1, 0, 0, 0, -1); copy(6, 0, 0, 0, -1); copy(0, 0, -1, 0, -1); copy(0, 0, 6, 0, -1)");
        run.bad("copy(LEAST, 0, 1, 0, 1); copy(1, 0, MOST, 0, 1)");
    }

    private static void copySize() {
        Run run = Run.promise(5, "SIZE: n below 0").row(0, 1, 2)
            .finds(SIZE, "copy(0, 0, 0, 0, -1); copy(0, 0, 0, 0, LEAST)");
        run.finds(SIZE, "copy(1, 0, 0, 0, -1); copy(0, 0, 1, 0, -1); copy(0, 9, 0, 9, -1); copy(0, 2, 0, 2, -2)");
    }

    private static void copyNothing() {
        Run run = Run.promise(5, "NOTHING: either").row(0, 1)
            .finds(NOTHING, "copy(1, 0, 2, 0, 0); copy(0, 0, 1, 0, 0)");
        run.finds(NOTHING, "copy(1, 0, 0, 0, 0); copy(1, -1, 0, 0, 1); copy(0, 0, 1, 0, 99); copy(5, 0, 5, 0, 0)");
    }

    private static void copyBeyond() {
        Run run = Run.promise(5, "BEYOND: not so many there").row(0, 1, 2, 3).row(1, 4, 5);
        run.finds(BEYOND, "copy(0, 0, 1, 0, 3); copy(1, 0, 0, 0, 3); copy(0, 2, 1, 0, 2); copy(0, 0, 1, 1, 2)");
        run.finds(BEYOND, "copy(0, -1, 1, 0, 1); copy(0, 0, 1, -1, 1); copy(0, 3, 1, 0, 1); copy(0, 0, 1, 2, 1)");
        run.due("copy(0, 1, 1, 0, 2)", 1).due("copy(1, 0, 0, 1, 2)", 1).due("copy(0, 2, 1, 1, 1)", 1);
    }

    private static void copyBeyondWithoutWrap() {
        Run run = Run.promise(5, "not so many there").row(0, 1, 2);
        run.finds(BEYOND, "copy(0, 1, 0, 0, MOST); copy(0, 0, 0, 1, MOST); copy(0, MOST, 0, 0, MOST)");
        run.finds(BEYOND, "copy(0, MOST, 0, 0, 1); copy(0, 0, 0, MOST, 1); copy(0, LEAST, 0, 0, 1); copy(0, 0, 0, LEAST, 1)");
        run.finds(BEYOND, "copy(0, LEAST, 0, 0, MOST); copy(0, 0, 0, LEAST, MOST)");
    }

    private static void copyOfNone() {
        Run run = Run.promise(5, "n places of a ROW, from one on").row(0, 1, 2).after("row(1, 0)");
        run.due("copy(0, 0, 1, 0, 0)", 1).due("copy(0, 2, 1, 0, 0)", 1).due("copy(1, 0, 0, 2, 0)", 1);
        run.finds(BEYOND, "copy(0, 3, 1, 0, 0); copy(0, 0, 1, 1, 0); copy(0, -1, 1, 0, 0); copy(0, 0, 1, -1, 0)");
        expectRow(run, 0, 1, 2);
    }

    // ---- promise 6

    private static void textBlanks() {
        Run run = Run.promise(6, "A TEXT is there with n blanks: n.").text(0, "HHH").due("text(0, 2)", 2);
        run.each("put(0, 0, 1); put(0, 1, 1)", 1032).finds(BEYOND, "put(0, 2, 1)");
        run.due("text(0, 0)", 0).finds(BEYOND, "put(0, 0, 1)").due("text(0, 40)", 40).due("put(0, 39, 1)", 1032);
    }

    private static void textAbove40() {
        Run run = Run.promise(6, "BAD: also n above 40").due("text(3, 40)", 40)
            .bad("text(3, 41); text(3, MOST); text(4, 41)");
        run.finds(BEYOND, "put(3, 40, 1)").due("put(3, 39, 1)", 1032);
    }

    private static void textBelowNought() {
        Run run = Run.promise(6, "SIZE: below 0").text(3, "H").finds(SIZE, "text(3, -1); text(3, LEAST); text(0, -1)");
        run.bad("text(4, -1); text(-1, LEAST)").due("put(3, 0, 0)", 1072);
    }

    // ---- promise 7

    private static void putCutToByte() {
        Run run = Run.promise(7, "Byte i of a TEXT is v, cut to a byte").after("text(0, 1)");
        int[][] cuts = {{127, 127}, {-128, -128}, {128, -128}, {-129, 127}, {255, -1}, {256, 0}, {-256, 0}, {257, 1},
            {-257, -1}, {32768, 0}, {65583, 47}};
        int was = 32;
        for (int[] c : cuts) {
            run.due("put(0, 0, " + c[0] + ")", 1000 + was);
            was = c[1];
        }
        run.due("put(0, 0, MOST)", 1047).due("put(0, 0, LEAST)", 999).due("put(0, 0, 0)", 1000);
        run.after("put(0, 0, " + (256 + 'H') + "); text(1, 2); put(1, 0, " + (512 + 'H') + "); put(1, 1, " + ('7' - 256) + ")");
        run.due("fault(0)", 1).due("fault(1)", NONE).due("terms(1, 0)", 0).due("force(2, 0, 0, 0)", 7);
    }

    private static void putThousandMore() {
        Run run = Run.promise(7, "what it was, and 1000 more").after("text(0, 2)").due("put(0, 0, -128)", 1032);
        run.due("put(0, 0, 127)", 872).due("put(0, 0, 0)", 1127).due("put(0, 0, -1)", 1000).due("put(0, 0, 5)", 999);
        run.due("put(0, 1, 5)", 1032);
    }

    private static void putBad() {
        Run.promise(7, "BAD; NOTHING; BEYOND").bad("put(-1, 0, 1); put(4, 0, 1); put(LEAST, 99, 1); put(MOST, 0, 1)");
    }

    private static void putNothing() {
        Run.promise(7, "NOTHING; BEYOND").finds(NOTHING, "put(0, 0, 1); put(3, -1, 1); put(3, 40, 1)");
    }

    private static void putBeyond() {
        Run run = Run.promise(7, "BEYOND").text(0, "HH").finds(BEYOND, "put(0, 2, 1); put(0, -1, 1)");
        run.finds(BEYOND, "put(0, MOST, 1); put(0, LEAST, 1)").due("put(0, 1, 1)", 1072).after("text(0, 0)");
        run.finds(BEYOND, "put(0, 0, 1)");
    }

    // ---- promise 8

    private static void expectFaults(Run run, Object... signsAndFaults) {
        for (int i = 0; i < signsAndFaults.length; i += 2) {
            String signs = (String) signsAndFaults[i];
            run.anew().text(2, signs).due("fault(2)", (Integer) signsAndFaults[i + 1]);
        }
    }

    private static void faultBlanks() {
        Run run = Run.terms("with blanks (32) ahead, between, behind as many as wanted");
        expectFaults(run, "", NONE, " ", NONE, " ".repeat(40), NONE, "H1", NONE, "   H1   R2   ", NONE, "H1R2", NONE,
            "F01D12H3R4", NONE, "H1" + " ".repeat(36) + "R2", NONE);
        expectFaults(run, "\tH1", 0, "H1\tR1", 2, "\n", 0, "!H1", 0, "\u001fH1", 0, "\u00a0H1", 0, "H1,R1", 2, "\0", 0);
    }

    private static void faultYardDigit() {
        Run run = Run.terms("in YARD y (one digit 0 .. 7)");
        expectFaults(run, "F01", NONE, "F71", NONE, "D01", NONE, "D71", NONE, "F81", 1, "F91", 1, "D81", 1, "F/1", 1,
            "D:1", 1, "F 01", 1, "D 71", 1, "FF01", 1, "F-1", 1, "F00", NONE, "D0D", 2, "F0F01", 2);
    }

    private static void faultNumberDigits() {
        Run run = Run.terms("a TRAILER stands free for n minutes (one to four digits)");
        expectFaults(run, "F00", NONE, "F09999", NONE, "F012345", 6, "F00000", NONE, "F000000", 6, "F0 1", 2, "F0/", 2,
            "F0:", 2, "F01/", 3, "F0123:", 5);
        expectFaults(run, "D00", NONE, "D09999", NONE, "D012345", 6, "D0 1", 2, "D0x", 2);
        run = Run.terms("H (72) n, R (82) n: one to four digits");
        expectFaults(run, "H0", NONE, "H9999", NONE, "H12345", 5, "H 1", 1, "HH1", 1, "H-1", 1, "H/", 1, "H:", 1, "H9:", 2);
        expectFaults(run, "R0", NONE, "R9999", NONE, "R12345", 5, "R 1", 1, "RR1", 1, "R1234 5", 6, "R1 5", 3, "R1H", 3);
    }

    private static void faultAtTheEnd() {
        Run run = Run.terms("(the TEXT's size, if its end comes too early)");
        expectFaults(run, "F", 1, "F0", 2, "D", 1, "D7", 2, "H", 1, "R", 1, "H1 R", 4, "  F", 3, "H1F3", 4);
        expectFaults(run, " ".repeat(39) + "H", 40, " ".repeat(38) + "F0", 40, " ".repeat(37) + "F01", NONE,
            "H1".repeat(19) + "H1", NONE, "H1".repeat(19) + "HH", 39);
    }

    private static void faultFirstPlace() {
        Run run = Run.terms("A FAULT is the first place at which it can't go on so");
        expectFaults(run, "x", 0, "5", 0, "0H1", 0, "h1", 0, "f01", 0, "E01", 0, "G01", 0, "C01", 0, "I1", 0, "Q1", 0, "S1", 0,
            "H1x", 2, "H1 xx", 3, "F01D0xH", 5, "xx", 0, "H1 2", 3);
        Run bytes = run.anew().after("text(0, 2); put(0, 0, 72); put(0, 1, -80)").due("fault(0)", 1);
        bytes.after("put(0, 0, 200)").due("fault(0)", 0);
    }

    private static void faultNone() {
        Run run = Run.promise(8, "NONE: there is none.").after("text(0, 0)").due("fault(0)", NONE);
        run.text(0, "F7120D79999 H600R480").due("fault(0)", NONE).due("count(4)", 0).due("force(2, 0, 69, 69)", 600);
    }

    private static void faultBad() {
        Run.promise(8, "BAD").bad("fault(-1); fault(4); fault(LEAST); fault(MOST)");
    }

    private static void faultNothing() {
        Run.promise(8, "NOTHING").text(1, "H").finds(NOTHING, "fault(0); fault(3)").due("fault(1)", 1);
    }

    // ---- promise 9

    private static void laterByNone() {
        Run.promise(9, "NOW is n minutes later: it.").due("later(0)", 0).due("later(1)", 1).due("later(7)", 8)
            .due("later(0)", 8);
    }

    private static void laterBelowNought() {
        Run.promise(9, "BAD: below 0").after("later(5)").bad("later(-1); later(-5); later(LEAST)");
    }

    private static void laterBeyond() {
        Run run = Run.promise(9, "or beyond 99999").bad("later(100000); later(MOST)").after("later(5)");
        run.bad("later(99995); later(MOST)").due("later(99994)", 99999).bad("later(1); later(MOST)")
            .due("later(0)", 99999);
    }

    // ---- promise 10

    private static void wayBounds() {
        Run run = Run.terms("so many minutes (1 .. 600) and a TOLL (0 .. 999)");
        run.due("way(0, 7, 1, 0)", 1).due("comes(0, 0, 7)", 1).due("toll(0, 7)", 0);
        run.due("way(7, 0, 600, 999)", 1).due("comes(0, 0, 7)", 600).due("toll(0, 7)", 999);
        run.bad("way(0, 7, 0, 0); way(0, 7, -1, 0); way(0, 7, 601, 0); way(0, 7, LEAST, 0); way(0, 7, MOST, 0)");
        run.bad("way(0, 7, 1, -1); way(0, 7, 1, 1000); way(0, 7, 1, LEAST); way(0, 7, 1, MOST)");
    }

    private static void wayOfOneYard() {
        Run run = Run.promise(10, "BAD: also of one YARD alone");
        for (int y = 0; y < 8; y++) {
            run.bad("way(" + y + ", " + y + ", 1, 0)");
        }
        run.due("count(3)", 0);
    }

    private static void wayAnew() {
        Run run = Run.promise(10, "A WAY (anew): 1.").due("way(1, 2, 10, 5)", 1).due("ferry(1, 2, 100, 50)", 1);
        run.due("comes(1, 0, 2)", 60).due("way(2, 1, 20, 6)", 1).due("comes(1, 0, 2)", 20).due("toll(1, 2)", 6);
        run.due("count(3)", 1).due("way(1, 2, 600, 999)", 1).due("comes(2, 0, 1)", 600).due("count(3)", 1);
        for (int a = 0; a < 8; a++) {
            for (int b = a + 1; b < 8; b++) {
                run.due("way(" + b + ", " + a + ", 1, 0)", 1);
            }
        }
        run.due("count(3)", 28);
    }

    // ---- promise 11

    private static void ferryBounds() {
        Run run = Run.promise(11, "BAD: E, F, too").after("way(0, 7, 1, 0)");
        run.bad("ferry(0, 7, 0, 0); ferry(0, 7, -1, 0); ferry(0, 7, 1441, 0); ferry(0, 7, LEAST, 0)")
            .bad("ferry(0, 7, MOST, 0)");
        run.bad("ferry(0, 7, 1, 1); ferry(0, 7, 10, 10); ferry(0, 7, 10, -1); ferry(0, 7, 1440, 1440)")
            .bad("ferry(0, 7, 9, MOST)");
        run.bad("ferry(0, 7, 10, LEAST); ferry(0, 7, 0, -1); ferry(0, 7, LEAST, LEAST)");
        run.due("ferry(0, 7, 1, 0)", 1).due("comes(0, 5, 7)", 6).due("ferry(7, 0, 1440, 1439)", 1)
            .due("comes(0, 5, 7)", 1440);
        run.due("ferry(7, 0, 10, 9)", 1).due("comes(0, 5, 7)", 10).due("ferry(7, 0, 10, 0)", 1)
            .due("comes(0, 5, 7)", 11);
    }

    private static void ferryNothing() {
        Run run = Run.promise(11, "NOTHING: no WAY").after("way(0, 1, 5, 0); way(1, 2, 5, 0)");
        run.finds(NOTHING, "ferry(0, 2, 10, 0); ferry(2, 0, 10, 0); ferry(0, 7, 1440, 1439)");
        run.bad("ferry(0, 2, 0, 0); ferry(0, 2, 10, 10)").due("ferry(2, 1, 10, 0)", 1);
    }

    private static void ferryAnew() {
        Run run = Run.promise(11, "A WAY is a FERRY: 1.").after("way(0, 1, 5, 3)").due("ferry(0, 1, 100, 50)", 1);
        run.due("ferry(1, 0, 100, 20)", 1).due("comes(0, 0, 1)", 25).due("count(3)", 1).due("toll(0, 1)", 3);
    }

    // ---- promise 12

    private static void comesByAnyWays() {
        Run run = Run.terms("the earliest minute by any WAYS one behind the other");
        run.after("way(0, 7, 100, 9); way(0, 1, 1, 1); way(1, 7, 1, 1); way(7, 6, 1, 1); way(0, 6, 50, 8)");
        run.due("comes(0, 0, 6)", 3).due("comes(6, 0, 0)", 3).due("toll(0, 6)", 3).due("toll(6, 0)", 3);
        run = run.anew();
        for (int y = 0; y < 7; y++) {
            run.after("way(" + y + ", " + (y + 1) + ", 600, 999)");
        }
        run.due("comes(0, 0, 7)", 4200).due("comes(7, 99999, 0)", 104199).due("toll(7, 0)", 6993);
    }

    private static void comesBounds() {
        Run run = Run.promise(12, "at a minute (0 .. 99999)").after("way(0, 1, 600, 0); later(50)")
            .due("comes(0, 0, 1)", 600);
        run.due("comes(0, 99999, 1)", 100599);
        run.bad("comes(0, -1, 1); comes(0, 100000, 1); comes(0, LEAST, 1); comes(0, MOST, 1); comes(0, -1, 0)");
    }

    private static void comesBad() {
        Run run = Run.promise(12, "BAD; NOTHING");
        run.bad("comes(-1, 0, 0); comes(8, 0, 0); comes(0, 0, -1); comes(0, 0, 8); comes(8, 0, 8)")
            .bad("comes(0, 100000, 7)");
    }

    private static void comesNothing() {
        Run run = Run.promise(12, "NOTHING: none leads there").after("way(0, 1, 5, 0); way(2, 3, 5, 0)");
        run.finds(NOTHING, "comes(0, 0, 2); comes(3, 99999, 1); comes(7, 0, 0)").due("comes(0, 0, 1)", 5);
        run.after("way(1, 2, 5, 0)").due("comes(0, 0, 3)", 15);
    }

    // ---- promise 13

    private static void tollWhateverTheMinutes() {
        Run run = Run.terms("LEAST TOLL: the least sum of TOLLS, whatever the minutes.");
        run.after("way(0, 1, 600, 4); way(1, 2, 600, 5); way(0, 2, 1, 10); ferry(0, 1, 1440, 1439)");
        run.due("toll(0, 2)", 9).due("toll(2, 0)", 9).after("way(0, 2, 600, 8)").due("toll(0, 2)", 8);
    }

    private static void tollToItself() {
        Run.promise(13, "LEAST TOLL").due("toll(0, 0)", 0).after("way(7, 0, 1, 9)").due("toll(7, 7)", 0)
            .due("toll(0, 7)", 9);
    }

    private static void tollBad() {
        Run.promise(13, "BAD").bad("toll(-1, 0); toll(8, 0); toll(0, -1); toll(0, 8); toll(8, 8); toll(LEAST, MOST)");
    }

    private static void tollNothing() {
        Run run = Run.promise(13, "NOTHING").finds(NOTHING, "toll(0, 7)").after("way(0, 1, 1, 0); way(6, 7, 1, 0)");
        run.finds(NOTHING, "toll(0, 7); toll(7, 1)").after("way(1, 6, 1, 0)").due("toll(0, 7)", 0);
    }
}
