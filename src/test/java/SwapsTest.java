/** Promises 43 to 46: swaps, pairs, one that is late. */
public final class SwapsTest {
    private static final int BAD = -1, STATE = -4, NONE = -9, NOTHING = 1, UNLIKE = 3, SIZE = 5;

    public static void main(String[] args) {
        swap();
        swapOfAlikeOnes();
        swapByTheSum();
        pairs();
        pairsRefused();
        pairsOfAlikeOnes();
        late();
        lateCosts();
        Check.end();
    }

    /** Yards 0 - 1 - 2 in a row of 100 minutes each; tractor k with trailer k, of worth 1000 times k + 1. */
    private static TrailerYards withTractors(int... yards) {
        TrailerYards x = new TrailerYards();
        x.way(0, 1, 100, 0);
        x.way(1, 2, 100, 0);
        for (int k = 0; k < yards.length; k++) {
            x.park(k, yards[k]);
            x.trailer(0, yards[k], 1000 * (k + 1));
            x.hitch(k, k);
        }
        return x;
    }

    private static void swap() {
        TrailerYards x = withTractors(0, 2);
        int[][] bad = {{0, 0, 0, 0}, {-1, 0, 0, 0}, {0, 6, 0, 0}, {0, 1, 8, 0}, {0, 1, 0, -1}};
        for (int[] b : bad) {
            Check.due("swap", x.swap(b[0], b[1], b[2], b[3]), BAD);
        }
        Check.due("has no trailer", x.swap(0, 2, 0, 0), STATE);
        Check.due("has no trailer", x.swap(2, 0, 0, 0), STATE);
        Check.due("swap", x.swap(0, 1, 0, 2), 1);
        Check.due("END", x.asked(), 210);
        Check.due("homes crossed", x.swap(0, 1, 2, 0), 1);
        Check.due("END", x.asked(), 210);
        Check.due("both to 0", x.swap(0, 1, 0, 0), 0);
        Check.due("END", x.asked(), 210);
        Check.finds(x, "no way home", x.swap(0, 1, 0, 7), NOTHING);
        Check.due("asked stays", x.asked(), 210);
        x.park(1, 7);
        Check.finds(x, "no way to one another", x.swap(0, 1, 0, 0), NOTHING);
        Check.due("STATE ahead of NOTHING", x.swap(2, 1, 0, 0), STATE);
        x.park(1, 1);
        x.go(1, 2);
        x.later(99);
        Check.due("on the way", x.swap(0, 1, 0, 2), STATE);
        Check.due("on the way", x.swap(1, 0, 0, 2), STATE);
        x.later(1);
        Check.due("there", x.swap(1, 0, 2, 0), 1);
        Check.due("END", x.asked(), 310);
        Check.due("nothing changes", x.tractor(0, 2), 1);
        Check.due("nothing changes", x.asked(), 0);
    }

    private static void swapOfAlikeOnes() {
        // 0 and 2 meet in 1 or in 3, and come home alike late, but one of them comes home earlier from 3.
        TrailerYards x = withTractors(0, 2);
        x.way(0, 3, 90, 0);
        x.way(3, 2, 100, 0);
        x.way(3, 4, 100, 0);
        x.way(1, 4, 100, 0);
        Check.due("least sum of both", x.swap(0, 1, 0, 4), 3);
        Check.due("END", x.asked(), 210);
        x.way(0, 3, 100, 0);
        Check.due("least yard", x.swap(0, 1, 0, 4), 1);
        Check.due("END", x.asked(), 210);
    }

    /** The lesser sum decides, not the lesser difference. */
    private static void swapByTheSum() {
        TrailerYards x = new TrailerYards();
        x.trailer(0, 0, 0);
        x.trailer(0, 0, 0);
        x.hitch(0, 0);
        x.hitch(1, 1);
        x.way(0, 1, 100, 0);
        x.way(1, 3, 100, 0);
        x.way(1, 4, 100, 0);
        x.way(0, 2, 100, 0);
        x.way(2, 3, 100, 0);
        x.way(2, 4, 90, 0);
        Check.due("the least yard of alike sums", x.swap(0, 1, 4, 3), 0);
        Check.due("END", x.asked(), 210);
        x.ferry(0, 1, 300, 0);
        x.ferry(0, 2, 300, 0);
        // From 0 the next ferry goes far too late: they meet in 1 or 2.
        Check.due("least sum of both", x.swap(0, 1, 4, 3), 2);
        Check.due("END", x.asked(), 210);
        Check.due("least sum of both", x.swap(0, 1, 3, 4), 2);
        Check.due("END", x.asked(), 210);
    }

    private static void pairs() {
        TrailerYards x = withTractors(0, 0, 2, 2);
        Check.row(x, 0, 0, 0, 2, 2, 0, 0);
        Check.due("partner before", x.partner(0), NONE);
        Check.due("pairs", x.pairs(15, 0), 10);
        expectPartners(x, 1, 0, 3, 2, NONE, NONE);
        Check.due("pairs of two", x.pairs(1 | 8, 0), 210);
        expectPartners(x, 3, NONE, NONE, 0, NONE, NONE);
        Check.due("refused", x.pairs(1, 0), BAD);
        Check.due("refused", x.pairs(3 | 16 | 32, 0), STATE);
        expectPartners(x, 3, NONE, NONE, 0, NONE, NONE);
        Check.due("partner", x.partner(6), BAD);
        Check.due("partner", x.partner(-1), BAD);
    }

    private static void expectPartners(TrailerYards x, int... want) {
        for (int k = 0; k < want.length; k++) {
            Check.due("partner " + k, x.partner(k), want[k]);
        }
    }

    private static void pairsRefused() {
        TrailerYards x = withTractors(0, 0, 2, 2, 7);
        for (int set : new int[] {0, 1, 7, 31, 64, 65, 3 | 64, 3 | 192, -1, -2, Integer.MIN_VALUE}) {
            Check.due("pairs of " + set, x.pairs(set, 0), BAD);
        }
        Check.due("no row", x.pairs(3, 6), BAD);
        Check.due("no row", x.pairs(3, -1), BAD);
        Check.finds(x, "the row", x.pairs(3, 0), NOTHING);
        Check.row(x, 0, 9, 9, 9, 9, 9);
        Check.finds(x, "not six", x.pairs(32 | 1, 0), SIZE);
        Check.row(x, 0, 0, 0, 0, 0, 0, 8);
        Check.finds(x, "a home that is none", x.pairs(32 | 1, 0), UNLIKE);
        Check.row(x, 0, 0, 0, 0, 0, 0, -1);
        Check.finds(x, "a home that is none", x.pairs(3, 0), UNLIKE);
        Check.row(x, 0, 0, 0, 0, 0, 0, 0);
        Check.row(x, 0, 0, 0, 0, 0, 7, 7);
        Check.due("homes 0 to 7", x.pairs(3, 0), 10);
        Check.due("no trailer", x.pairs(32 | 1, 0), STATE);
        Check.due("STATE ahead of NOTHING", x.pairs(32 | 16, 0), STATE);
        Check.finds(x, "no way to part them", x.pairs(16 | 1, 0), NOTHING);
        Check.finds(x, "no way to part them", x.pairs(16 | 1 | 2 | 4, 0), NOTHING);
        Check.due("pairs", x.pairs(3, 0), 10);
        x.asked();
        x.go(1, 1);
        Check.due("on the way", x.pairs(3, 0), STATE);
        x.go(0, 1);
        Check.due("the first on the way", x.pairs(1 | 4, 0), STATE);
        Check.finds(x, "pairs tells no asked, but is refused", x.pairs(16 | 4, 0), NOTHING);
        Check.due("asked is told by others", x.asked(), 0);
    }

    private static void pairsOfAlikeOnes() {
        TrailerYards x = withTractors(1, 1, 1, 1, 1, 1);
        Check.row(x, 5, 1, 1, 1, 1, 1, 1);
        Check.due("pairs", x.pairs(63, 5), 10);
        expectPartners(x, 1, 0, 3, 2, 5, 4);
        // Whoever goes with 5 needs as long as it: the first way is as good as all.
        x.park(5, 2);
        Check.row(x, 5, 1, 1, 1, 1, 1, 2);
        Check.due("pairs", x.pairs(63, 5), 210);
        expectPartners(x, 1, 0, 3, 2, 5, 4);
        // 1 and 5 belong together, then the others by order.
        x.park(1, 2);
        Check.row(x, 5, 1, 2, 1, 1, 1, 2);
        Check.due("pairs", x.pairs(63, 5), 10);
        expectPartners(x, 2, 5, 0, 4, 3, 1);
        Check.due("asked is not told by pairs", x.asked(), 0);
    }

    private static void late() {
        TrailerYards x = withTractors(0, 2);
        int[][] bad = {{0, 0, 0, 0, 0, 0}, {6, 1, 0, 0, 0, 0}, {0, -1, 0, 0, 0, 0}, {0, 1, 8, 0, 0, 0},
            {0, 1, 0, 8, 0, 0}, {0, 1, 0, -1, 0, 0}, {0, 1, -1, 0, 0, 0}, {0, 1, 0, 0, -1, 0}, {0, 1, 0, 0, 2001, 0},
            {0, 1, 0, 0, 0, -1}, {0, 1, 0, 0, 0, 100000}};
        for (int[] b : bad) {
            Check.due("late", x.late(b[0], b[1], b[2], b[3], b[4], b[5]), BAD);
        }
        Check.due("no trailer", x.late(0, 2, 0, 7, 0, 0), STATE);
        Check.due("no trailer", x.late(2, 0, 0, 7, 0, 0), STATE);
        Check.finds(x, "no way to m", x.late(0, 1, 0, 7, 0, 0), NOTHING);
        Check.finds(x, "no way home", x.late(0, 1, 7, 1, 0, 0), NOTHING);
        x.park(0, 7);
        Check.finds(x, "no way to m for the first", x.late(0, 1, 2, 1, 0, 0), NOTHING);
        Check.finds(x, "no way to m for the other", x.late(1, 0, 2, 1, 0, 0), NOTHING);
        x.park(0, 1);
        x.go(0, 0);
        Check.due("on the way", x.late(0, 1, 2, 1, 0, 0), STATE);
        Check.due("on the way", x.late(1, 0, 2, 1, 0, 0), STATE);
        x.later(100);
        Check.due("there", x.late(1, 0, 2, 1, 0, 99999), 1);
    }

    private static void lateCosts() {
        TrailerYards x = withTractors(0, 1);
        // The other one (of worth 2000) is at m at once, the first one at 100 and later.
        expectLate(x, 0, 1, 2, 50, 260, 1, 0);
        expectLate(x, 0, 1, 2, 50, 259, 1, 2);
        expectLate(x, 0, 1, 2, 50, 261, 1, 0);
        expectLate(x, 0, 1, 2, 50, 110, 1, 300);
        expectLate(x, 0, 1, 2, 50, 109, 0, 300);
        expectLate(x, 0, 1, 1, 2000, 99999, 1, 0);
        // The first one is late, but still ahead of the other one.
        expectLate(x, 1, 0, 1, 70, 100, 1, 10);
        expectLate(x, 1, 0, 1, 100, 100, 1, 10);
        expectLate(x, 1, 0, 1, 110, 100, 1, 20);

        TrailerYards y = new TrailerYards();
        y.trailer(0, 0, 999);
        y.trailer(0, 0, 99);
        y.trailer(0, 0, 100000);
        for (int k = 0; k < 3; k++) {
            y.hitch(k, k);
        }
        y.later(5);
        Check.due("cut", y.late(1, 0, 0, 0, 0, 13), 1);
        Check.due("cut", y.asked(), 1);
        Check.due("cut", y.late(1, 0, 0, 0, 0, 14), 1);
        Check.due("cut", y.asked(), 0);
        Check.due("cut", y.late(1, 0, 0, 0, 2000, 0), 0);
        Check.due("both by 10, cut", y.asked(), 109);
        y.later(99990);
        Check.due("far beyond dawn", y.late(1, 2, 0, 0, 2000, 0), 0);
        Check.due("far beyond dawn", y.asked(), 10009);
    }

    private static void expectLate(TrailerYards x, int a, int b, int homeB, int minutes, int dawn, int... want) {
        Check.due("late", x.late(a, b, homeB, 1, minutes, dawn), want[0]);
        Check.due("late's asked", x.asked(), want[1]);
    }
}
