/** Promises 1 to 13: a new object, rows, texts, yards. */
public final class RowsTextsYardsTest {
    private static final int BAD = -1, NONE = -9, NOTHING = 1, BEYOND = 2, SIZE = 5;
    private static final int LEAST = Integer.MIN_VALUE, MOST = Integer.MAX_VALUE;

    public static void main(String[] args) {
        newObject();
        row();
        lay();
        tear();
        copy();
        text();
        put();
        fault();
        later();
        way();
        ferry();
        comes();
        toll();
        Check.end();
    }

    private static void newObject() {
        TrailerYards x = new TrailerYards();
        for (int what = 0; what <= 7; what++) {
            Check.due("new count", x.count(what), 0);
        }
        for (int k = 0; k < 6; k++) {
            int[] want = {0, 0, NONE, 0, 0};
            for (int what = 0; what < 5; what++) {
                Check.due("new tractor", x.tractor(k, what), 1);
                Check.due("new tractor asked", x.asked(), want[what]);
            }
        }
        x.trailer(0, 0, 0);
        x.load(0, 20000, 100);
        Check.due("MA 20000 at first", x.lawful(0), 1);
        x.load(0, 1, 100);
        Check.due("MA 20000 at first", x.lawful(0), 0);
        x.unload(0);
        x.load(0, 20000, 0);
        Check.due("MK 20000 at first", x.lawful(0), 1);
        x.load(0, 1, 0);
        Check.due("MK 20000 at first", x.lawful(0), 0);
    }

    private static void row() {
        TrailerYards x = new TrailerYards();
        Check.due("row(5, 40)", x.row(5, 40), 40);
        Check.due("row(0, 0)", x.row(0, 0), 0);
        Check.due("count(6)", x.count(6), 2);
        for (int r : new int[] {-1, 6, LEAST, MOST}) {
            Check.due("row " + r, x.row(r, 1), BAD);
            Check.due("row " + r, x.row(r, -1), BAD);
        }
        Check.due("row(0, 41)", x.row(0, 41), BAD);
        Check.due("row(0, MOST)", x.row(0, MOST), BAD);
        Check.finds(x, "row(0, -1)", x.row(0, -1), SIZE);
        Check.finds(x, "row(0, LEAST)", x.row(0, LEAST), SIZE);
        Check.row(x, 1, 7, 8);
        Check.due("row anew", x.row(1, 3), 3);
        for (int i = 0; i < 3; i++) {
            x.lay(1, i, 9);
            Check.due("a new row's ints", x.asked(), 0);
        }
    }

    private static void lay() {
        TrailerYards x = new TrailerYards();
        Check.finds(x, "lay, missing", x.lay(0, 50, 1), NOTHING);
        Check.due("lay, no row", x.lay(6, 0, 1), BAD);
        Check.due("lay, no row", x.lay(-1, 0, 1), BAD);
        x.row(0, 2);
        Check.due("lay", x.lay(0, 1, MOST), 1);
        Check.due("lay", x.lay(0, 1, LEAST), 1);
        Check.due("asked", x.asked(), MOST);
        Check.finds(x, "lay beyond", x.lay(0, 2, 5), BEYOND);
        Check.finds(x, "lay beyond", x.lay(0, -1, 5), BEYOND);
        Check.due("asked stays", x.asked(), MOST);
        x.lay(0, 1, 0);
        Check.due("asked", x.asked(), LEAST);
    }

    private static void tear() {
        TrailerYards x = new TrailerYards();
        Check.due("tear", x.tear(6), BAD);
        Check.due("tear", x.tear(-1), BAD);
        Check.finds(x, "tear", x.tear(0), NOTHING);
        x.row(0, 0);
        Check.due("tear", x.tear(0), 1);
        Check.finds(x, "tear", x.tear(0), NOTHING);
        Check.due("count(6)", x.count(6), 0);
        Check.finds(x, "lay", x.lay(0, 0, 0), NOTHING);
    }

    private static void copy() {
        TrailerYards x = new TrailerYards();
        Check.row(x, 0, 1, 2, 3, 4, 5);
        Check.row(x, 1, 0, 0, 0);
        Check.due("copy ahead", x.copy(0, 0, 0, 1, 4), 1);
        expectRow(x, 0, 1, 1, 2, 3, 4);
        Check.row(x, 0, 1, 2, 3, 4, 5);
        Check.due("copy back", x.copy(0, 1, 0, 0, 4), 1);
        expectRow(x, 0, 2, 3, 4, 5, 5);
        Check.row(x, 0, 1, 2, 3, 4, 5);
        Check.due("copy to another", x.copy(0, 3, 1, 1, 2), 1);
        expectRow(x, 1, 0, 4, 5);
        Check.due("copy none at the end", x.copy(0, 5, 1, 3, 0), 1);
        Check.finds(x, "copy none beyond", x.copy(0, 6, 1, 0, 0), BEYOND);
        Check.finds(x, "copy none beyond", x.copy(0, 0, 1, 4, 0), BEYOND);
        Check.finds(x, "copy from below", x.copy(0, -1, 1, 0, 1), BEYOND);
        Check.finds(x, "copy to below", x.copy(0, 0, 1, -1, 1), BEYOND);
        Check.finds(x, "copy too many", x.copy(0, 0, 1, 0, 4), BEYOND);
        Check.finds(x, "copy beyond the end", x.copy(0, 3, 1, 0, 3), BEYOND);
        Check.finds(x, "copy beyond the end", x.copy(0, 0, 1, 2, 2), BEYOND);
        Check.finds(x, "copy far too many", x.copy(0, 1, 1, 1, MOST), BEYOND);
        Check.finds(x, "copy from far", x.copy(0, MOST, 1, MOST, MOST), BEYOND);
        Check.finds(x, "copy fewer than none", x.copy(0, 0, 2, 0, -1), SIZE);
        Check.finds(x, "copy to missing", x.copy(0, 9, 2, 9, 9), NOTHING);
        Check.finds(x, "copy of missing", x.copy(2, 0, 0, 0, 0), NOTHING);
        Check.due("copy", x.copy(6, 0, 0, 0, -1), BAD);
        Check.due("copy", x.copy(0, 0, -1, 0, -1), BAD);
    }

    private static void expectRow(TrailerYards x, int r, int... want) {
        for (int i = 0; i < want.length; i++) {
            x.lay(r, i, 0);
            Check.due("place " + i + " of row " + r, x.asked(), want[i]);
        }
    }

    private static void text() {
        TrailerYards x = new TrailerYards();
        Check.due("text(3, 40)", x.text(3, 40), 40);
        Check.due("text(0, 0)", x.text(0, 0), 0);
        Check.due("count(7)", x.count(7), 2);
        Check.due("text", x.text(4, 1), BAD);
        Check.due("text", x.text(-1, -1), BAD);
        Check.due("text", x.text(0, 41), BAD);
        Check.finds(x, "text", x.text(0, -1), SIZE);
        x.put(3, 39, 5);
        Check.due("text anew", x.text(3, 40), 40);
        Check.due("blanks", x.put(3, 39, 5), 1032);
    }

    private static void put() {
        TrailerYards x = new TrailerYards();
        Check.finds(x, "put", x.put(0, 9, 1), NOTHING);
        Check.due("put", x.put(4, 0, 1), BAD);
        Check.due("put", x.put(-1, 0, 1), BAD);
        x.text(0, 1);
        Check.finds(x, "put", x.put(0, 1, 1), BEYOND);
        Check.finds(x, "put", x.put(0, -1, 1), BEYOND);
        Check.due("put", x.put(0, 0, 200), 1032);
        Check.due("put, cut to a byte", x.put(0, 0, 127), 1000 - 56);
        Check.due("put", x.put(0, 0, -129), 1127);
        Check.due("put", x.put(0, 0, 256 + 70), 1127);
        Check.due("put", x.put(0, 0, 0), 1070);
    }

    private static void fault() {
        expectFault("", NONE);
        expectFault("   ", NONE);
        expectFault("F00", NONE);
        expectFault("  F7120D79999  H1R0001 ", NONE);
        expectFault("H1H2H3", NONE);
        expectFault("F", 1);
        expectFault("F ", 1);
        expectFault("F0", 2);
        expectFault("F0 1", 2);
        expectFault("F81", 1);
        expectFault("F91", 1);
        expectFault("D:1", 1);
        expectFault("D/1", 1);
        expectFault("F012345", 6);
        expectFault("F01234 5", 7);
        expectFault("H", 1);
        expectFault("HR1", 1);
        expectFault("H 1", 1);
        expectFault("R12345", 5);
        expectFault("5", 0);
        expectFault(" x", 1);
        expectFault("f01", 0);
        expectFault("H1\tR1", 2);
        expectFault("H:", 1);
        expectFault("H/", 1);
        expectFault("H1:", 2);
        expectFault("H1/", 2);
        expectFault("H0H1H2H3H4H5H6H7H8H9H0H1H2H3H4H5H6H7H8H9", NONE);
        expectFault("H0H1H2H3H4H5H6H7H8H9H0H1H2H3H4H5H6H7H8HH", 39);
        expectFault("H0H1H2H3H4H5H6H7H8H9H0H1H2H3H4H5H6H7H8 H", 40);
        expectFault("H1R", 3);
        TrailerYards x = new TrailerYards();
        Check.finds(x, "fault", x.fault(0), NOTHING);
        Check.due("fault", x.fault(4), BAD);
        Check.due("fault", x.fault(-1), BAD);
        Check.text(x, 0, "H1");
        x.put(0, 1, -80);
        Check.due("fault of a byte below 0", x.fault(0), 1);
    }

    private static void expectFault(String signs, int want) {
        TrailerYards x = new TrailerYards();
        Check.text(x, 2, signs);
        Check.due("fault of '" + signs + "'", x.fault(2), want);
    }

    private static void later() {
        TrailerYards x = new TrailerYards();
        Check.due("later", x.later(0), 0);
        Check.due("later", x.later(5), 5);
        Check.due("later", x.later(-1), BAD);
        Check.due("later", x.later(99995), BAD);
        Check.due("later", x.later(MOST), BAD);
        Check.due("later", x.later(LEAST), BAD);
        Check.due("later", x.later(99994), 99999);
        Check.due("later", x.later(1), BAD);
        Check.due("later", x.later(0), 99999);
    }

    private static void way() {
        TrailerYards x = new TrailerYards();
        Check.due("way", x.way(7, 0, 600, 999), 1);
        Check.due("both ways", x.comes(0, 0, 7), 600);
        Check.due("both ways", x.comes(7, 0, 0), 600);
        Check.due("way", x.way(0, 7, 1, 0), 1);
        Check.due("anew", x.comes(7, 0, 0), 1);
        Check.due("anew", x.toll(7, 0), 0);
        Check.due("count(3)", x.count(3), 1);
        x.ferry(0, 7, 100, 50);
        x.way(0, 7, 1, 0);
        Check.due("a way anew is no ferry", x.comes(0, 0, 7), 1);
        int[][] bad = {{0, 0, 1, 1}, {-1, 0, 1, 1}, {0, 8, 1, 1}, {8, 0, 1, 1}, {0, -1, 1, 1}, {0, 1, 0, 0},
            {0, 1, 601, 0}, {0, 1, 1, -1}, {0, 1, 1, 1000}};
        for (int[] b : bad) {
            Check.due("way", x.way(b[0], b[1], b[2], b[3]), BAD);
        }
        Check.due("count(3)", x.count(3), 1);
    }

    private static void ferry() {
        TrailerYards x = new TrailerYards();
        Check.finds(x, "ferry without a way", x.ferry(0, 1, 10, 0), NOTHING);
        Check.finds(x, "ferry of one yard", x.ferry(1, 1, 10, 0), NOTHING);
        x.way(0, 1, 5, 0);
        int[][] bad = {{-1, 1, 9, 0}, {0, 8, 9, 0}, {0, 1, 0, 0}, {0, 1, 1441, 0}, {0, 1, 9, 9}, {0, 1, 9, -1},
            {0, 1, LEAST, 0}};
        for (int[] b : bad) {
            Check.due("ferry", x.ferry(b[0], b[1], b[2], b[3]), BAD);
        }
        Check.due("ferry", x.ferry(1, 0, 1440, 1439), 1);
        Check.due("waits for the first", x.comes(0, 0, 1), 1444);
        Check.due("just goes", x.comes(1, 1439, 0), 1444);
        Check.due("waits for the next", x.comes(1, 1440, 0), 2884);
        Check.due("ferry", x.ferry(0, 1, 1, 0), 1);
        Check.due("no wait", x.comes(0, 3, 1), 8);
        Check.due("count(3)", x.count(3), 1);
    }

    private static void comes() {
        TrailerYards x = new TrailerYards();
        Check.due("to itself", x.comes(3, 77, 3), 77);
        Check.finds(x, "none leads there", x.comes(0, 0, 1), NOTHING);
        x.way(0, 1, 100, 0);
        x.way(1, 2, 10, 0);
        x.way(0, 2, 105, 0);
        x.ferry(1, 2, 60, 50);
        Check.due("round", x.comes(0, 0, 2), 105);
        Check.due("by the ferry", x.comes(0, 10, 2), 115);
        x.ferry(1, 2, 60, 40);
        Check.due("by the ferry", x.comes(0, 0, 2), 105);
        x.way(0, 2, 200, 0);
        Check.due("by the ferry", x.comes(0, 0, 2), 110);
        Check.due("late", x.comes(0, 99999, 1), 100099);
        Check.due("comes", x.comes(0, 100000, 1), BAD);
        Check.due("comes", x.comes(0, -1, 0), BAD);
        Check.due("comes", x.comes(8, 0, 1), BAD);
        Check.due("comes", x.comes(0, 0, -1), BAD);
    }

    private static void toll() {
        TrailerYards x = new TrailerYards();
        Check.due("to itself", x.toll(7, 7), 0);
        Check.finds(x, "none leads there", x.toll(0, 1), NOTHING);
        x.way(0, 1, 1, 10);
        x.way(1, 2, 600, 0);
        x.way(0, 2, 1, 11);
        x.ferry(1, 2, 1440, 0);
        Check.due("whatever the minutes", x.toll(0, 2), 10);
        Check.due("and back", x.toll(2, 0), 10);
        Check.due("toll", x.toll(-1, 0), BAD);
        Check.due("toll", x.toll(0, 8), BAD);
    }
}
