/** Promises 53 to 59: what is told. */
public final class ToldTest {
    private static final int BAD = -1, NONE = -9;

    public static void main(String[] args) {
        asked();
        fractions();
        count();
        findings();
        digestOfNew();
        digestOfAll();
        Check.end();
    }

    private static void asked() {
        TrailerYards x = new TrailerYards();
        Check.due("asked before", x.asked(), 0);
        Check.row(x, 0, 44);
        x.lay(0, 0, 45);
        Check.due("by lay", x.asked(), 44);
        x.lay(0, 1, 45);
        x.lay(6, 0, 45);
        x.told(0, 0);
        x.limit(0, 0);
        x.tractor(0, 9);
        x.mean(1);
        x.theft(0);
        x.hands(0);
        x.swap(0, 1, 0, 0);
        x.late(0, 1, 0, 0, 0, 0);
        x.look(0, 0, 0);
        x.pool(0, 0);
        Check.due("not by what is refused", x.asked(), 44);
        x.rent(0, 0, 1, 1, 1);
        x.detention(0);
        x.comes(0, 5, 0);
        x.canBe(0);
        x.book(0, 0, 1);
        Check.due("not by others", x.asked(), 44);
        x.mean(0);
        Check.due("by mean", x.asked(), 45);
        x.digest();
        Check.due("not by digest", x.asked(), 45);
    }

    private static void fractions() {
        TrailerYards x = new TrailerYards();
        Check.due("upper before", x.upper(), 0);
        Check.due("lower before", x.lower(), 1);
        x.trailer(0, 0, 0);
        x.load(0, 1, 1);
        x.weight(0, false);
        x.weight(1, true);
        x.mean(0);
        Check.due("upper", x.upper(), 1);
        Check.due("lower", x.lower(), 100);
    }

    private static void count() {
        TrailerYards x = new TrailerYards();
        Check.due("count", x.count(-1), BAD);
        Check.due("count", x.count(8), BAD);
        x.later(99);
        x.trailer(0, 0, 0);
        x.trailer(0, 0, 0);
        x.lose(1);
        for (int y = 1; y < 5; y++) {
            x.way(0, y, 1, 1);
        }
        x.way(1, 0, 1, 1);
        for (int t = 0; t < 4; t++) {
            x.text(t, 3);
            x.terms(t, t);
        }
        x.terms(0, 0);
        for (int r = 0; r < 6; r++) {
            x.row(r, 0);
        }
        x.row(0, 3);
        int[] want = {99, 2, 1, 4, 5, 3, 6, 4};
        for (int what = 0; what < 8; what++) {
            Check.due("count " + what, x.count(what), want[what]);
        }
        x.tear(0);
        x.find(1, 0);
        Check.due("rows there", x.count(6), 5);
        Check.due("lost ones", x.count(2), 0);
    }

    private static void findings() {
        TrailerYards x = new TrailerYards();
        Check.due("finding before", x.finding(), 0);
        for (int f = 1; f <= 5; f++) {
            Check.due("findings before", x.findings(f), 0);
        }
        Check.due("findings", x.findings(0), BAD);
        Check.due("findings", x.findings(6), BAD);
        Check.due("findings", x.findings(Integer.MIN_VALUE), BAD);
        x.tear(0);
        x.tear(1);
        x.row(0, -1);
        x.row(0, 0);
        x.lay(0, 0, 0);
        x.mean(0);
        x.trailer(0, 0, 0);
        x.mark(0, 1);
        Check.due("finding", x.finding(), 3);
        x.tear(7);
        x.drop(0);
        x.tear(0);
        Check.due("finding stays", x.finding(), 3);
        int[] want = {2, 1, 1, 1, 1};
        for (int f = 1; f <= 5; f++) {
            Check.due("findings " + f, x.findings(f), want[f - 1]);
        }
    }

    /** The digest of values in the order in which the document names them. */
    private static final class Digest {
        private long h = 17;

        private void add(long... values) {
            for (long v : values) {
                h = 31 * h + v;
            }
        }
    }

    private static void digestOfNew() {
        Digest d = new Digest();
        d.add(0, 0, 0, 0, 0, 0, 0, 0);
        for (int i = 0; i < 28; i++) {
            d.add(0, 0, 0, 0);
        }
        for (int k = 0; k < 6; k++) {
            d.add(0, 0, NONE, 0, 0);
        }
        d.add(20000, 20000);
        d.add(-1, -1, -1, -1, -1, -1);
        d.add(-1, -1, -1, -1);
        Check.due("digest of a new object", new TrailerYards().digest(), d.h);
    }

    private static void digestOfAll() {
        TrailerYards x = new TrailerYards();
        x.way(1, 0, 30, 4);
        x.way(6, 7, 50, 5);
        x.ferry(7, 6, 20, 3);
        x.trailer(3, 0, 9);
        x.later(2000);
        x.trailer(0, 7, 8);
        x.hitch(0, 0);
        x.seal(0, 3);
        x.slide(0, 77);
        x.load(0, 1, 1);
        x.go(0, 1);
        x.lose(1);
        x.law(123, 456);
        Check.text(x, 1, "H700");
        x.terms(1, 4);
        Check.row(x, 5, 1, -2);
        x.text(3, 2);
        x.put(3, 1, 200);
        Digest d = new Digest();
        d.add(2000, 2, 1, 2, 1, 5, 1, 2);
        for (int a = 0; a < 8; a++) {
            for (int b = a + 1; b < 8; b++) {
                if (a == 0 && b == 1) {
                    d.add(30, 4, 0, 0);
                } else if (a == 6 && b == 7) {
                    d.add(50, 5, 20, 3);
                } else {
                    d.add(0, 0, 0, 0);
                }
            }
        }
        d.add(3, NONE, 0, 0, 9, 77, 1, 1);
        d.add(0, NONE, NONE, 1, 8, 100, 0, 0);
        d.add(1, 2030, 0, 30, 30);
        for (int k = 1; k < 6; k++) {
            d.add(0, 0, NONE, 0, 0);
        }
        d.add(0, 0, 0, 0);
        d.add(1, 0, 2000, 7);
        d.add(0, 1, 2000, 0);
        d.add(0, 3, 2000, NONE);
        d.add(1, 2, 2000, NONE);
        d.add(1, 4);
        d.add(123, 456);
        d.add(-1, -1, -1, -1, -1, 2, 1, -2);
        d.add(-1, 4, 'H', '7', '0', '0', -1, 2, 32, -56);
        Check.due("digest", x.digest(), d.h);
        Check.due("digest again", x.digest(), d.h);
    }
}
