/** Promises 28 to 31: terms, detention. */
public final class TermsTest {
    private static final int BAD = -1, FULL = -2, STATE = -4, NOTHING = 1;

    public static void main(String[] args) {
        terms();
        force();
        forceAsKnown();
        detention();
        detentionByYards();
        pence();
        Check.end();
    }

    private static void terms() {
        TrailerYards x = new TrailerYards();
        Check.due("terms", x.terms(4, 0), BAD);
        Check.due("terms", x.terms(-1, 0), BAD);
        Check.due("terms", x.terms(0, -1), BAD);
        Check.due("terms", x.terms(0, 70), BAD);
        Check.finds(x, "terms", x.terms(0, 0), NOTHING);
        Check.text(x, 0, "H");
        Check.due("a fault", x.terms(0, 0), STATE);
        Check.due("count(4)", x.count(4), 0);
        Check.text(x, 1, "");
        for (int i = 0; i < 20; i++) {
            Check.due("terms", x.terms(1, 69), i);
        }
        Check.due("21st", x.terms(1, 0), FULL);
        Check.due("FULL ahead of STATE", x.terms(0, 0), FULL);
        Check.due("FULL ahead of NOTHING", x.terms(3, 0), FULL);
        Check.due("BAD ahead of FULL", x.terms(3, 70), BAD);
        Check.due("count(4)", x.count(4), 20);
    }

    private static void force() {
        TrailerYards x = new TrailerYards();
        for (int y = 0; y < 8; y++) {
            Check.due("F at first", x.force(0, y, 0, 0), 120);
            Check.due("D at first", x.force(1, y, 69, 69), 0);
        }
        Check.due("H at first", x.force(2, -5, 0, 69), 600);
        Check.due("R at first", x.force(3, 99, 69, 0), 480);
        int[][] bad = {{-1, 0, 0, 0}, {4, 0, 0, 0}, {0, 8, 0, 0}, {1, -1, 0, 0}, {2, 0, -1, 0}, {2, 0, 70, 0},
            {3, 0, 0, -1}, {3, 0, 0, 70}};
        for (int[] b : bad) {
            Check.due("force", x.force(b[0], b[1], b[2], b[3]), BAD);
        }
        Check.text(x, 0, "F31D32H0003R4F35F09999");
        x.terms(0, 2);
        x.text(0, 0);
        Check.due("not yet", x.force(0, 3, 1, 0), 120);
        Check.due("the last item", x.force(0, 3, 2, 0), 5);
        Check.due("D", x.force(1, 3, 69, 0), 2);
        Check.due("H", x.force(2, 0, 2, 0), 3);
        Check.due("R", x.force(3, 0, 2, 0), 4);
        Check.due("F 0", x.force(0, 0, 2, 0), 9999);
        Check.due("another yard", x.force(0, 2, 2, 0), 120);
        Check.due("another yard", x.force(1, 0, 2, 0), 0);
    }

    private static void forceAsKnown() {
        TrailerYards x = new TrailerYards();
        Check.text(x, 0, "H1");
        Check.text(x, 1, "H2");
        Check.text(x, 2, "R7");
        x.terms(0, 5);
        x.later(1440);
        x.terms(1, 3);
        x.terms(2, 9);
        Check.due("latest from-day", x.force(2, 0, 5, 1), 1);
        Check.due("the earlier one", x.force(2, 0, 4, 1), 2);
        Check.due("not yet known", x.force(2, 0, 4, 0), 600);
        Check.due("not about it", x.force(2, 0, 9, 1), 1);
        x.later(1440);
        x.terms(1, 5);
        Check.due("told last", x.force(2, 0, 5, 2), 2);
        Check.due("as known ahead", x.force(2, 0, 5, 1), 1);
        x.terms(0, 5);
        Check.due("told last on one day", x.force(2, 0, 5, 2), 1);
        Check.due("told last on one day", x.force(2, 0, 69, 69), 1);
    }

    private static void detention() {
        TrailerYards x = new TrailerYards();
        Check.due("detention", x.detention(0), BAD);
        Check.due("detention", x.detention(-1), BAD);
        Check.text(x, 0, "F060D0100");
        Check.text(x, 1, "D07");
        x.terms(0, 0);
        x.terms(1, 1);
        x.trailer(0, 0, 0);
        x.later(60);
        expectDetention(x, 0, 0);
        x.later(1);
        expectDetention(x, 1, 100);
        x.later(59);
        expectDetention(x, 1, 100);
        x.later(1);
        expectDetention(x, 1, 200);
        x.seal(0, 3);
        x.hitch(0, 0);
        x.later(1000);
        expectDetention(x, 1, 200);
        x.drop(0);
        x.later(400);
        x.lose(0);
        expectDetention(x, 2, 800);
        x.later(400);
        x.find(0, 0);
        x.later(61);
        expectDetention(x, 3, 807);
        x.terms(0, 0);
        x.terms(0, 1);
        expectDetention(x, 3, 900);
        x.hitch(0, 0);
        x.park(0, 1);
        x.drop(0);
        x.later(121);
        expectDetention(x, 4, 900);
        x.later(1440);
        Check.text(x, 2, "D00F00");
        x.terms(2, 0);
        Check.due("known too late for those days", x.detention(0), 4);
        expectDetention(x, 4, 900);
    }

    private static void detentionByYards() {
        TrailerYards x = new TrailerYards();
        Check.text(x, 0, "F05 D01 F7200 D7700 F31 D32");
        x.terms(0, 0);
        x.trailer(0, 7, 0);
        x.later(201);
        expectDetention(x, 1, 700);
        x.lose(0);
        x.find(0, 3);
        x.later(62);
        expectDetention(x, 2, 700 + 2 * 2);
    }

    private static void expectDetention(TrailerYards x, int times, int pence) {
        Check.due("detention", x.detention(0), times);
        Check.due("pence", x.pence(), pence);
    }

    private static void pence() {
        TrailerYards x = new TrailerYards();
        Check.due("pence before", x.pence(), 0);
        Check.text(x, 0, "F00D09999");
        x.terms(0, 0);
        x.trailer(0, 0, 0);
        x.later(99999);
        x.trailer(0, 0, 0);
        Check.due("detention", x.detention(0), 1);
        Check.due("pence", x.pence(), 1667L * 9999);
        Check.due("refused", x.detention(2), BAD);
        Check.due("pence stays", x.pence(), 1667L * 9999);
        Check.due("detention", x.detention(1), 0);
        Check.due("pence", x.pence(), 0);
    }
}
