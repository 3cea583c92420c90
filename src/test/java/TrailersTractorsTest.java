/** Promises 14 to 27: trailers and tractors, THE BOOK. */
public final class TrailersTractorsTest {
    private static final int BAD = -1, FULL = -2, STATE = -4, NONE = -9, NOTHING = 1, UNLIKE = 3;

    public static void main(String[] args) {
        trailer();
        told();
        mark();
        limit();
        park();
        hitch();
        drop();
        go();
        goWithinHours();
        tractor();
        lose();
        find();
        seal();
        fullBehindState();
        book();
        where();
        Check.end();
    }

    private static void trailer() {
        TrailerYards x = new TrailerYards();
        int[][] bad = {{-1, 0, 0}, {4, 0, 0}, {0, -1, 0}, {0, 8, 0}, {0, 0, -1}, {0, 0, 100001}};
        for (int[] b : bad) {
            Check.due("trailer", x.trailer(b[0], b[1], b[2]), BAD);
        }
        for (int t = 0; t < 12; t++) {
            Check.due("trailer", x.trailer(t % 4, t % 8, 100000), t);
        }
        Check.due("a 13th trailer", x.trailer(0, 0, 0), FULL);
        Check.due("there is no 13th", x.told(12, 0), BAD);
        Check.due("BAD ahead of FULL", x.trailer(4, 0, 0), BAD);
        Check.due("count(1)", x.count(1), 12);
        Check.due("count(5)", x.count(5), 12);
        TrailerYards y = fullBook();
        Check.due("THE BOOK is full", y.trailer(0, 0, 0), FULL);
        Check.due("count(1)", y.count(1), 1);
    }

    /** Trailer 0 in yard 0, not sealed, and sixty entries. */
    private static TrailerYards fullBook() {
        TrailerYards x = new TrailerYards();
        x.trailer(0, 0, 0);
        x.seal(0, 3);
        x.seal(0, 4);
        for (int i = 0; i < 28; i++) {
            x.seal(0, 5);
            x.seal(0, 3);
        }
        x.seal(0, 5);
        Check.due("count(5)", x.count(5), 60);
        return x;
    }

    private static void told() {
        TrailerYards x = new TrailerYards();
        Check.due("told", x.told(0, 0), BAD);
        x.trailer(3, 5, 77);
        expectTold(x, 0, 3, 5, NONE, 0, 77, 100, 0, 0);
        x.park(2, 5);
        x.hitch(2, 0);
        x.slide(0, 61);
        x.load(0, 5, 5);
        x.load(0, 5, 5);
        x.seal(0, 3);
        expectTold(x, 0, 3, NONE, 2, 0, 77, 61, 2, 1);
        x.lose(0);
        expectTold(x, 0, 3, NONE, NONE, 1, 77, 61, 2, 1);
        x.find(0, 7);
        expectTold(x, 0, 3, 7, NONE, 0, 77, 61, 2, 1);
        Check.due("told", x.told(0, 8), BAD);
        Check.due("told", x.told(0, -1), BAD);
        Check.due("told", x.told(1, 0), BAD);
        Check.due("told", x.told(-1, 0), BAD);
    }

    private static void expectTold(TrailerYards x, int t, int... want) {
        for (int what = 0; what < want.length; what++) {
            Check.due("told", x.told(t, what), 1);
            Check.due("told " + what, x.asked(), want[what]);
        }
    }

    private static void mark() {
        TrailerYards x = new TrailerYards();
        x.later(1439);
        for (int kind = 0; kind < 4; kind++) {
            x.trailer(kind, 0, 0);
        }
        int[][] want = {{0, 0, 0}, {5, 0, 0}, {0, 1, 0}, {-18, 0, 0}};
        boolean[][] is = {{false, false, false}, {true, false, false}, {false, true, false}, {true, false, true}};
        x.later(1);
        for (int t = 0; t < 4; t++) {
            for (int kind = 1; kind < 4; kind++) {
                if (is[t][kind - 1]) {
                    Check.due("mark", x.mark(t, kind), want[t][kind - 1]);
                } else {
                    Check.finds(x, "mark " + t + " " + kind, x.mark(t, kind), UNLIKE);
                }
            }
            Check.due("mark of kind 0", x.mark(t, 0), BAD);
            Check.due("mark of kind 4", x.mark(t, 4), BAD);
        }
        Check.due("mark", x.mark(4, 1), BAD);
        Check.due("mark", x.mark(12, 1), BAD);
        Check.due("mark", x.mark(-1, 1), BAD);
        x.cold(3, 0, 0);
        x.cold(3, 0, 3);
        Check.due("refused looks do not count", x.mark(3, 3), 0);
        x.row(0, 0);
        for (int what = 0; what < 3; what++) {
            x.cold(3, 0, what);
        }
        Check.due("looks", x.mark(3, 3), 3);
        x.trailer(2, 0, 0);
        x.later(98559);
        Check.due("days of the rented one", x.mark(2, 2), 69);
        Check.due("days of one that came on day 1", x.mark(4, 2), 68);
    }

    private static void limit() {
        TrailerYards x = new TrailerYards();
        Check.due("limit", x.limit(0, 0), BAD);
        for (int kind = 0; kind < 4; kind++) {
            x.trailer(kind, 0, 0);
        }
        Check.finds(x, "limit", x.limit(0, 0), UNLIKE);
        Check.finds(x, "limit", x.limit(2, 0), UNLIKE);
        Check.due("limit", x.limit(0, 51), BAD);
        Check.due("limit", x.limit(1, -51), BAD);
        Check.due("limit", x.limit(1, 50), 1);
        Check.due("asked", x.asked(), 5);
        Check.due("limit", x.limit(1, -50), 1);
        Check.due("asked", x.asked(), 50);
        Check.due("limit", x.limit(3, 0), 1);
        Check.due("asked", x.asked(), -18);
        Check.due("mark", x.mark(1, 1), -50);
        Check.due("mark", x.mark(3, 1), 0);
    }

    private static void park() {
        TrailerYards x = new TrailerYards();
        Check.due("park", x.park(6, 0), BAD);
        Check.due("park", x.park(-1, 0), BAD);
        Check.due("park", x.park(0, 8), BAD);
        Check.due("park", x.park(0, -1), BAD);
        x.way(0, 1, 100, 0);
        x.trailer(0, 0, 0);
        x.hitch(0, 0);
        x.go(0, 1);
        x.later(99);
        Check.due("park on the way", x.park(0, 3), STATE);
        x.later(1);
        Check.due("park", x.park(0, 3), 1);
        expectTractor(x, 0, 3, 100, 0, 0, 100);
        expectTold(x, 0, 0, NONE, 0, 0);
        Check.due("no entry for it", x.count(5), 2);
        x.drop(0);
        expectTold(x, 0, 0, 3, NONE, 0);
    }

    private static void expectTractor(TrailerYards x, int k, int... want) {
        for (int what = 0; what < want.length; what++) {
            Check.due("tractor", x.tractor(k, what), 1);
            Check.due("tractor " + what, x.asked(), want[what]);
        }
    }

    private static void hitch() {
        TrailerYards x = new TrailerYards();
        Check.due("no trailer", x.hitch(0, 0), BAD);
        x.way(0, 1, 10, 0);
        x.trailer(0, 0, 0);
        x.trailer(0, 0, 0);
        x.trailer(0, 1, 0);
        Check.due("no tractor", x.hitch(6, 0), BAD);
        Check.due("no tractor", x.hitch(-1, 0), BAD);
        Check.due("another yard", x.hitch(0, 2), STATE);
        Check.due("hitch", x.hitch(0, 0), 1);
        Check.due("has one", x.hitch(0, 1), STATE);
        Check.due("it is hitched", x.hitch(1, 0), STATE);
        x.go(1, 1);
        x.later(9);
        Check.due("on the way", x.hitch(1, 2), STATE);
        x.later(1);
        Check.due("there", x.hitch(1, 2), 1);
        x.lose(1);
        Check.due("lost", x.hitch(2, 1), STATE);
        Check.due("entry", x.book(2, 1, 0), 1);
        Check.due("entry", x.book(2, 1, 1), 10);
        Check.due("entry", x.book(2, 1, 2), 1);
    }

    private static void drop() {
        TrailerYards x = new TrailerYards();
        Check.due("drop", x.drop(6), BAD);
        Check.due("drop", x.drop(-1), BAD);
        Check.due("has none", x.drop(0), STATE);
        x.way(0, 4, 10, 0);
        x.trailer(0, 0, 0);
        x.trailer(0, 0, 0);
        x.hitch(0, 1);
        x.go(0, 4);
        x.later(9);
        Check.due("on the way", x.drop(0), STATE);
        x.later(1);
        Check.due("drop", x.drop(0), 1);
        expectTold(x, 1, 0, 4, NONE, 0);
        Check.due("entry", x.book(1, 2, 0), 0);
        Check.due("entry", x.book(1, 2, 1), 10);
        Check.due("entry", x.book(1, 2, 2), 4);
        Check.due("has none", x.drop(0), STATE);
    }

    private static void go() {
        TrailerYards x = new TrailerYards();
        Check.due("go", x.go(6, 1), BAD);
        Check.due("go", x.go(-1, 1), BAD);
        Check.due("go", x.go(0, 8), BAD);
        Check.due("go", x.go(0, -1), BAD);
        Check.due("its own yard", x.go(0, 0), BAD);
        Check.finds(x, "none leads there", x.go(0, 1), NOTHING);
        x.way(0, 1, 50, 0);
        x.way(1, 2, 551, 0);
        Check.due("go", x.go(0, 1), 50);
        Check.due("that to which it goes", x.go(0, 1), BAD);
        Check.due("on the way, ahead of NOTHING", x.go(0, 7), STATE);
        x.later(50);
        Check.due("beyond the hours", x.go(0, 2), STATE);
        Check.finds(x, "NOTHING ahead of HOURS", x.go(0, 7), NOTHING);
        x.later(99999 - 50 - 49);
        Check.due("beyond 99999", x.go(0, 0), STATE);
        Check.due("go", x.go(1, 1), STATE);
        expectTractor(x, 0, 1, 50, NONE, 50, 50);
        TrailerYards y = new TrailerYards();
        y.way(0, 1, 50, 0);
        y.later(99949);
        Check.due("just within", y.go(0, 1), 99999);
    }

    private static void goWithinHours() {
        TrailerYards x = new TrailerYards();
        x.way(0, 1, 300, 0);
        x.way(0, 2, 1, 0);
        x.ferry(0, 2, 1440, 0);
        x.go(0, 1);
        x.later(300 + 479);
        Check.due("600 may be driven", x.go(0, 0), 1079);
        expectTractor(x, 0, 0, 1079, NONE, 600, 600);
        x.later(300 + 479);
        Check.due("no rest yet", x.go(0, 1), STATE);
        x.later(1);
        Check.due("just rested", x.go(0, 1), 1559 + 300);
        expectTractor(x, 0, 1, 1859, NONE, 300, 900);
        x.later(300);
        x.park(0, 0);
        Check.due("waiting for a ferry is driven", x.go(0, 2), STATE);
        x.later(2880 - 599 - 1859);
        Check.due("waiting for a ferry is driven", x.go(0, 2), 2881);
        expectTractor(x, 0, 2, 2881, NONE, 600, 1500);

        TrailerYards y = new TrailerYards();
        y.way(0, 1, 10, 0);
        Check.text(y, 0, "H10R5");
        Check.text(y, 1, "H9");
        y.terms(0, 0);
        y.terms(1, 1);
        Check.due("by the terms", y.go(0, 1), 10);
        y.later(14);
        Check.due("by the terms", y.go(0, 0), STATE);
        y.later(1);
        Check.due("by the terms", y.go(0, 0), 25);
        y.later(1440);
        Check.due("by the terms of the next day", y.go(0, 1), STATE);
    }

    private static void tractor() {
        TrailerYards x = new TrailerYards();
        Check.due("tractor", x.tractor(6, 0), BAD);
        Check.due("tractor", x.tractor(-1, 0), BAD);
        Check.due("tractor", x.tractor(0, 5), BAD);
        Check.due("tractor", x.tractor(0, -1), BAD);
        x.way(0, 5, 33, 0);
        x.trailer(0, 0, 0);
        x.trailer(0, 0, 0);
        x.later(7);
        x.hitch(5, 1);
        expectTractor(x, 5, 0, 0, 1, 0, 0);
        x.go(5, 5);
        expectTractor(x, 5, 5, 40, 1, 33, 33);
        x.later(500);
        expectTractor(x, 5, 5, 40, 1, 33, 33);
        x.later(13);
        x.go(5, 0);
        expectTractor(x, 5, 0, 553, 1, 33, 66);
    }

    private static void lose() {
        TrailerYards x = new TrailerYards();
        Check.due("lose", x.lose(0), BAD);
        Check.due("lose", x.lose(-1), BAD);
        x.way(0, 1, 10, 0);
        x.trailer(0, 0, 0);
        x.trailer(0, 0, 0);
        Check.due("out of a yard", x.lose(0), 1);
        Check.due("again", x.lose(0), STATE);
        x.hitch(0, 1);
        x.go(0, 1);
        x.later(3);
        Check.due("from a tractor", x.lose(1), 1);
        expectTractor(x, 0, 1, 10, NONE, 10, 10);
        Check.due("count(2)", x.count(2), 2);
        Check.due("entry", x.book(1, 2, 0), 2);
        Check.due("entry", x.book(1, 2, 1), 3);
        Check.due("entry", x.book(1, 2, 2), NONE);
    }

    private static void find() {
        TrailerYards x = new TrailerYards();
        Check.due("find", x.find(0, 0), BAD);
        x.trailer(0, 0, 0);
        Check.due("find", x.find(0, 0), STATE);
        Check.due("BAD ahead of STATE", x.find(0, 8), BAD);
        Check.due("BAD ahead of STATE", x.find(0, -1), BAD);
        x.lose(0);
        Check.due("find", x.find(0, 6), 1);
        Check.due("find", x.find(0, 6), STATE);
        Check.due("entry", x.book(0, 2, 0), 0);
        Check.due("entry", x.book(0, 2, 2), 6);
        Check.due("count(2)", x.count(2), 0);
    }

    private static void seal() {
        TrailerYards x = new TrailerYards();
        Check.due("seal", x.seal(0, 3), BAD);
        x.trailer(0, 0, 0);
        Check.due("seal", x.seal(0, 2), BAD);
        Check.due("seal", x.seal(0, 6), BAD);
        Check.due("not sealed", x.seal(0, 4), STATE);
        Check.due("not sealed", x.seal(0, 5), STATE);
        Check.due("seal", x.seal(0, 3), 1);
        Check.due("sealed", x.seal(0, 3), STATE);
        Check.due("whole", x.seal(0, 4), 1);
        x.told(0, 7);
        Check.due("it still is sealed", x.asked(), 1);
        x.lose(0);
        Check.due("lost", x.seal(0, 4), STATE);
        Check.due("lost", x.seal(0, 5), STATE);
        x.find(0, 0);
        Check.due("broken", x.seal(0, 5), 1);
        x.told(0, 7);
        Check.due("it is not sealed", x.asked(), 0);
        Check.due("entry", x.book(0, 5, 0), 5);
        Check.due("entry", x.book(0, 5, 2), NONE);
        x.lose(0);
        Check.due("lost", x.seal(0, 3), STATE);
    }

    private static void fullBehindState() {
        TrailerYards x = fullBook();
        Check.due("hitch", x.hitch(0, 0), FULL);
        x.park(1, 1);
        Check.due("hitch", x.hitch(1, 0), STATE);
        Check.due("drop", x.drop(0), STATE);
        Check.due("lose", x.lose(0), FULL);
        Check.due("find", x.find(0, 0), STATE);
        Check.due("seal", x.seal(0, 3), FULL);
        Check.due("seal", x.seal(0, 4), STATE);
        Check.due("count(5)", x.count(5), 60);

        TrailerYards y = new TrailerYards();
        y.trailer(0, 0, 0);
        y.trailer(0, 0, 0);
        y.hitch(0, 0);
        for (int i = 0; i < 28; i++) {
            y.seal(0, 3);
            y.seal(0, 5);
        }
        y.lose(1);
        Check.due("drop", y.drop(0), FULL);
        Check.due("find", y.find(1, 0), FULL);
        Check.due("lose", y.lose(1), STATE);
    }

    private static void book() {
        TrailerYards x = new TrailerYards();
        Check.due("book", x.book(0, 0, 0), BAD);
        x.trailer(0, 4, 0);
        x.later(5);
        x.trailer(0, 3, 0);
        x.seal(0, 3);
        Check.due("sort", x.book(1, 0, 0), 0);
        Check.due("minute", x.book(1, 0, 1), 5);
        Check.due("yard", x.book(1, 0, 2), 3);
        Check.due("sort", x.book(0, 1, 0), 3);
        Check.due("none such", x.book(1, 1, 0), NONE);
        Check.due("none such", x.book(0, -1, 0), NONE);
        Check.due("none such", x.book(0, Integer.MIN_VALUE, 0), NONE);
        Check.due("none such", x.book(0, Integer.MAX_VALUE, 0), NONE);
        Check.due("book", x.book(0, 0, 3), BAD);
        Check.due("book", x.book(0, 0, -1), BAD);
        Check.due("book", x.book(2, 0, 0), BAD);
    }

    private static void where() {
        TrailerYards x = new TrailerYards();
        Check.due("where", x.where(0, 0), BAD);
        x.later(10);
        x.trailer(0, 0, 0);
        x.later(10);
        x.hitch(5, 0);
        x.later(10);
        x.lose(0);
        x.later(10);
        x.find(0, 7);
        x.seal(0, 3);
        int[][] want = {{0, NONE}, {9, NONE}, {10, 0}, {19, 0}, {20, 15}, {29, 15}, {30, 20}, {39, 20}, {40, 7}};
        for (int[] w : want) {
            Check.due("where at " + w[0], x.where(0, w[0]), w[1]);
        }
        x.park(5, 7);
        x.hitch(5, 0);
        Check.due("behind all entries of the minute", x.where(0, 40), 15);
        Check.due("where", x.where(0, 41), BAD);
        Check.due("where", x.where(0, -1), BAD);
        Check.due("where", x.where(1, 0), BAD);
    }
}
