/** Promises 47 to 52: lost ones, pools, rents. */
public final class LostPoolRentTest {
    private static final int BAD = -1, FULL = -2, STATE = -4, NONE = -9, NOTHING = 1, UNLIKE = 3, SIZE = 5;

    public static void main(String[] args) {
        canBe();
        look();
        lookRefused();
        looked();
        pool();
        poolRefused();
        rent();
        rentRefused();
        rented();
        Check.end();
    }

    /** Yards 0 to 6 in a row, ten minutes each; 7 alone. */
    private static TrailerYards withWays() {
        TrailerYards x = new TrailerYards();
        for (int y = 0; y < 6; y++) {
            x.way(y, y + 1, 10, 0);
        }
        return x;
    }

    private static void canBe() {
        TrailerYards x = withWays();
        Check.due("canBe", x.canBe(0), BAD);
        x.trailer(0, 0, 0);
        Check.due("canBe", x.canBe(-1), BAD);
        Check.due("it is not lost", x.canBe(0), STATE);
        x.later(9);
        x.lose(0);
        Check.due("its yard", x.canBe(0), 1);
        x.later(1);
        Check.due("just come to", x.canBe(0), 3);
        x.later(9);
        Check.due("not yet", x.canBe(0), 3);
        x.find(0, 3);
        x.later(100);
        x.park(1, 3);
        x.hitch(1, 0);
        x.seal(0, 3);
        x.park(1, 6);
        x.later(10);
        x.lose(0);
        Check.due("since it was hitched, from where it was", x.canBe(0), 4 | 8 | 16);
        x.later(1000);
        Check.due("all to which a way leads", x.canBe(0), 127);
        x.ferry(3, 4, 1440, 100);
        Check.due("by the ways as they are", x.canBe(0), 15);
    }

    private static void look() {
        TrailerYards x = withWays();
        x.trailer(0, 3, 0);
        x.later(3);
        x.lose(0);
        Check.row(x, 0, 100, 100, 100, 7, 100, 100, 100, 100);
        expectLook(x, 0, 7 * 30, 3);
        expectLook(x, 3, 0, 3);
        x.later(10);
        expectLook(x, 3, 100 * 10 + 100 * 30, 3, 2, 4);
        Check.row(x, 0, 0, 0, 1, 0, 50, 0, 0, 0);
        expectLook(x, 3, 50 * 10 + 30, 4, 2);
        Check.row(x, 0, 0, 0, 0, 0, 0, 50, 0, 0);
        expectLook(x, 3, 0);
        x.ferry(3, 4, 100, 8);
        Check.row(x, 0, 0, 0, 9, 0, 9, 0, 0, 0);
        expectLook(x, 3, 9 * 10, 2);
        x.later(87);
        // Now 100: the ferry goes in eight minutes, and is missed by who looks in 2 first.
        Check.row(x, 0, 0, 0, 10, 0, 1, 0, 0, 0);
        expectLook(x, 3, 10 * 10 + 118, 2, 4);
        Check.row(x, 0, 0, 0, 1, 0, 9, 0, 0, 0);
        expectLook(x, 3, 9 * 18 + 128, 4, 2);
    }

    private static void expectLook(TrailerYards x, int yard, int sum, int... order) {
        Check.due("look", x.look(0, yard, 0), order.length);
        Check.due("look's asked", x.asked(), sum);
        for (int i = 0; i < order.length; i++) {
            Check.due("looked " + i, x.looked(i), order[i]);
        }
        Check.due("looked behind the last", x.looked(order.length), NONE);
    }

    private static void lookRefused() {
        TrailerYards x = withWays();
        x.way(6, 7, 10, 0);
        x.trailer(0, 3, 0);
        Check.due("look", x.look(1, 0, 0), BAD);
        Check.due("look", x.look(-1, 0, 0), BAD);
        Check.due("look", x.look(0, 8, 0), BAD);
        Check.due("look", x.look(0, -1, 0), BAD);
        Check.due("look", x.look(0, 0, 6), BAD);
        Check.due("look", x.look(0, 0, -1), BAD);
        Check.due("STATE ahead of NOTHING", x.look(0, 0, 0), STATE);
        x.lose(0);
        x.later(1000);
        Check.finds(x, "the row", x.look(0, 0, 0), NOTHING);
        Check.row(x, 0, 101, 0, 0, 0, 0, 0, 0);
        Check.finds(x, "not eight", x.look(0, 0, 0), SIZE);
        Check.row(x, 0, 0, 0, 0, 0, 0, 0, 0, 0, 0);
        Check.finds(x, "not eight", x.look(0, 0, 0), SIZE);
        Check.row(x, 0, 1, 1, 1, 1, 1, 1, 1, 101);
        Check.finds(x, "a weight that is none", x.look(0, 0, 0), UNLIKE);
        Check.row(x, 0, 1, 1, 1, 1, 1, 1, 1, -1);
        Check.finds(x, "a weight that is none", x.look(0, 0, 0), UNLIKE);
        Check.row(x, 0, 1, 1, 1, 1, 1, 1, 1, 0);
        Check.due("more than six", x.look(0, 0, 0), FULL);
        Check.row(x, 0, 1, 1, 1, 1, 1, 1, 0, 0);
        Check.due("six", x.look(0, 0, 0), 6);
        Check.due("asked", x.asked(), 150);

        TrailerYards y = withWays();
        y.trailer(0, 3, 0);
        y.lose(0);
        y.later(1000);
        Check.row(y, 0, 1, 1, 1, 1, 1, 1, 1, 1);
        Check.due("FULL ahead of NOTHING", y.look(0, 7, 0), FULL);
        Check.row(y, 0, 1, 0, 0, 0, 0, 0, 0, 1);
        Check.finds(y, "none leads there", y.look(0, 7, 0), NOTHING);
        Check.due("it can't be in 7", y.look(0, 1, 0), 1);
        Check.row(y, 0, 0, 0, 0, 0, 0, 0, 0, 1);
        Check.due("nowhere to look", y.look(0, 7, 0), 0);
    }

    private static void looked() {
        TrailerYards x = withWays();
        Check.due("looked before", x.looked(0), NONE);
        x.trailer(0, 3, 0);
        x.lose(0);
        x.later(10);
        Check.row(x, 0, 0, 0, 1, 2, 1, 0, 0, 0);
        x.look(0, 6, 0);
        Check.due("refused", x.look(0, 8, 0), BAD);
        Check.finds(x, "refused", x.look(0, 7, 0), NOTHING);
        int[] want = {4, 3, 2};
        for (int i = 0; i < 3; i++) {
            Check.due("looked", x.looked(i), want[i]);
        }
        for (int i : new int[] {-1, 3, 6, Integer.MIN_VALUE, Integer.MAX_VALUE}) {
            Check.due("looked " + i, x.looked(i), NONE);
        }
    }

    private static void pool() {
        TrailerYards x = withWays();
        Check.row(x, 0, 30, 0, 0, 0, 0, 0, 0, 0);
        Check.row(x, 1, 0, 1, 2, 0, 0, 0, 3, 0);
        expectPool(x, 0, 10 + 2 * 20 + 3 * 60);
        Check.row(x, 0, 1, 0, 1, 0, 0, 0, 0, 0);
        Check.row(x, 1, 0, 1, 0, 1, 0, 0, 0, 0);
        expectPool(x, 0, 20);
        // 2 lies nearest to 3, but then 0 would have to be served from 5.
        Check.row(x, 0, 0, 0, 2, 0, 0, 2, 0, 0);
        Check.row(x, 1, 2, 0, 0, 2, 0, 0, 0, 0);
        expectPool(x, 0, 2 * 20 + 2 * 20);
        // Too few: the nearest are served.
        Check.row(x, 0, 0, 3, 0, 0, 0, 0, 0, 0);
        Check.row(x, 1, 2, 0, 0, 0, 9, 0, 0, 4);
        expectPool(x, 12, 2 * 10 + 30);
        // As many as can be are brought, though fewer would cost less; 7 can't be helped.
        Check.row(x, 0, 0, 0, 0, 0, 0, 0, 1, 5);
        Check.row(x, 1, 1, 0, 0, 0, 0, 0, 0, 6);
        expectPool(x, 1, 60);
        Check.row(x, 1, 1, 0, 0, 0, 0, 0, 0, 4);
        expectPool(x, 0, 60);
        Check.row(x, 0, 5, 5, 5, 5, 5, 5, 5, 5);
        Check.due("a row with itself", x.pool(0, 0), 0);
        Check.due("asked", x.asked(), 0);
        x.ferry(0, 1, 100, 50);
        x.later(60);
        Check.row(x, 0, 2, 0, 0, 0, 0, 0, 0, 0);
        Check.row(x, 1, 0, 2, 0, 0, 0, 0, 0, 0);
        expectPool(x, 0, 2 * 100);
        Check.row(x, 1, 0, 1, 0, 0, 0, 0, 0, 9);
        expectPool(x, 9, 100);
    }

    private static void expectPool(TrailerYards x, int lack, int minutes) {
        Check.due("pool", x.pool(0, 1), lack);
        Check.due("pool's asked", x.asked(), minutes);
    }

    private static void poolRefused() {
        TrailerYards x = withWays();
        int[][] bad = {{-1, 0}, {0, -1}, {6, 0}, {0, 6}};
        for (int[] b : bad) {
            Check.due("pool", x.pool(b[0], b[1]), BAD);
        }
        Check.finds(x, "both missing", x.pool(0, 1), NOTHING);
        Check.row(x, 0, 99);
        Check.finds(x, "one missing", x.pool(0, 1), NOTHING);
        Check.finds(x, "one missing", x.pool(1, 0), NOTHING);
        Check.row(x, 1, 31, 0, 0, 0, 0, 0, 0, 0);
        Check.finds(x, "not eight", x.pool(0, 1), SIZE);
        Check.finds(x, "not eight", x.pool(1, 0), SIZE);
        x.row(0, 8);
        Check.finds(x, "a number that is none", x.pool(0, 1), UNLIKE);
        Check.finds(x, "a number that is none", x.pool(1, 0), UNLIKE);
        x.lay(1, 0, -1);
        Check.finds(x, "a number that is none", x.pool(0, 1), UNLIKE);
        x.lay(1, 0, 30);
        Check.due("pool", x.pool(0, 1), 30);
    }

    private static void rent() {
        TrailerYards x = new TrailerYards();
        Check.row(x, 0, 3, 0, 3);
        expectRent(x, 1, 10, 15, 1000, 2 * (10 + 15) + 2 * 10 + 2 * 10, 2, 2, 2);
        expectRent(x, 1, 10, 5, 1000, 2 * 15 * 2, 2, 0, 2);
        // Keeping them costs as much as fetching anew: the fewest on the earlier day.
        expectRent(x, 1, 10, 10, 1000, 2 * 20 * 2, 2, 0, 2);
        // Lacking costs as much as renting: none are rented.
        expectRent(x, 1, 10, 0, 10, 40, 0, 0, 0);
        expectRent(x, 1, 10, 0, 11, 40, 2, 0, 2);
        expectRent(x, 9, 0, 0, 1000, 0, 0, 0, 0);
        expectRent(x, 0, 0, 0, 0, 0, 0, 0, 0);
        expectRent(x, 3, 0, 0, 1, 0, 0, 0, 0);
        Check.row(x, 0, 9);
        expectRent(x, 0, 1000, 1000, 1000, 9000, 0);
        expectRent(x, 0, 400, 500, 1000, 8100, 9);
        Check.due("row", x.row(0, 40), 40);
        for (int d = 0; d < 40; d++) {
            x.lay(0, d, 9);
        }
        Check.due("rent", x.rent(0, 0, 999, 1000, 1000), 40 * 9000);
        Check.due("rent", x.rent(0, 0, 900, 1000, 1000), 40 * 9 * 900 + 9000);
        Check.due("rented", x.rented(39), 9);
    }

    private static void expectRent(TrailerYards x, int own, int p, int f, int l, int cost, int... days) {
        Check.due("rent", x.rent(0, own, p, f, l), cost);
        for (int d = 0; d < days.length; d++) {
            Check.due("rented " + d, x.rented(d), days[d]);
        }
        Check.due("rented behind the last", x.rented(days.length), NONE);
    }

    private static void rentRefused() {
        TrailerYards x = new TrailerYards();
        int[][] bad = {{-1, 0, 0, 0, 0}, {6, 0, 0, 0, 0}, {0, -1, 0, 0, 0}, {0, 10, 0, 0, 0}, {0, 0, -1, 0, 0},
            {0, 0, 1001, 0, 0}, {0, 0, 0, -1, 0}, {0, 0, 0, 1001, 0}, {0, 0, 0, 0, -1}, {0, 0, 0, 0, 1001}};
        for (int[] b : bad) {
            Check.due("rent", x.rent(b[0], b[1], b[2], b[3], b[4]), BAD);
        }
        Check.finds(x, "the row", x.rent(0, 0, 0, 0, 0), NOTHING);
        x.row(0, 0);
        Check.finds(x, "no days", x.rent(0, 0, 0, 0, 0), SIZE);
        Check.row(x, 0, 0, 10);
        Check.finds(x, "a need that is none", x.rent(0, 0, 0, 0, 0), UNLIKE);
        Check.row(x, 0, 0, -1);
        Check.finds(x, "a need that is none", x.rent(0, 0, 0, 0, 0), UNLIKE);
    }

    private static void rented() {
        TrailerYards x = new TrailerYards();
        Check.due("rented before", x.rented(0), NONE);
        Check.row(x, 0, 3, 2);
        x.rent(0, 0, 1, 1, 1000);
        Check.due("refused", x.rent(0, 10, 1, 1, 1), BAD);
        x.row(1, 0);
        Check.finds(x, "refused", x.rent(1, 0, 1, 1, 1), SIZE);
        Check.due("rented", x.rented(0), 3);
        Check.due("rented", x.rented(1), 2);
        for (int d : new int[] {-1, 2, 40, Integer.MIN_VALUE, Integer.MAX_VALUE}) {
            Check.due("rented " + d, x.rented(d), NONE);
        }
    }
}
