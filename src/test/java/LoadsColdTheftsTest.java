/** Promises 32 to 42: loads by axle, cold ones, thefts. */
public final class LoadsColdTheftsTest {
    private static final int BAD = -1, FULL = -2, STATE = -4, NONE = -9, NOTHING = 1, UNLIKE = 3, NOUGHT = 4;
    private static final int GAP = -999;

    public static void main(String[] args) {
        law();
        load();
        unload();
        slide();
        weight();
        lawful();
        shift();
        shiftIsNearest();
        cold();
        mean();
        theft();
        hands();
        Check.end();
    }

    private static TrailerYards withTrailer() {
        TrailerYards x = new TrailerYards();
        x.trailer(0, 0, 0);
        return x;
    }

    private static void law() {
        TrailerYards x = new TrailerYards();
        int[][] bad = {{-1, 0}, {0, -1}, {100001, 0}, {0, 100001}};
        for (int[] b : bad) {
            Check.due("law", x.law(b[0], b[1]), BAD);
        }
        Check.due("law", x.law(100000, 0), 1);
        Check.due("law", x.law(0, 100000), 1);
    }

    private static void load() {
        TrailerYards x = withTrailer();
        int[][] bad = {{-1, 1, 0}, {1, 1, 0}, {0, 0, 0}, {0, 20001, 0}, {0, 1, -1}, {0, 1, 131}};
        for (int[] b : bad) {
            Check.due("load", x.load(b[0], b[1], b[2]), BAD);
        }
        for (int i = 1; i <= 6; i++) {
            Check.due("load", x.load(0, 20000, 130), i);
        }
        Check.due("a 7th load", x.load(0, 1, 0), FULL);
        Check.due("BAD ahead of FULL", x.load(0, 0, 0), BAD);
        x.weight(0, false);
        Check.due("upper", x.upper(), 156000);
        Check.due("lower", x.lower(), 1);
    }

    private static void unload() {
        TrailerYards x = withTrailer();
        Check.due("unload", x.unload(1), BAD);
        Check.due("unload", x.unload(-1), BAD);
        Check.due("unload", x.unload(0), 0);
        x.load(0, 5, 50);
        x.load(0, 5, 50);
        Check.due("unload", x.unload(0), 2);
        Check.due("unload", x.unload(0), 0);
        x.weight(0, true);
        Check.due("nothing lies there", x.upper(), 0);
        Check.due("load", x.load(0, 5, 50), 1);
    }

    private static void slide() {
        TrailerYards x = withTrailer();
        int[][] bad = {{1, 60}, {-1, 60}, {0, 59}, {0, 121}};
        for (int[] b : bad) {
            Check.due("slide", x.slide(b[0], b[1]), BAD);
        }
        Check.due("slide", x.slide(0, 60), 100);
        Check.due("slide", x.slide(0, 120), 60);
        Check.due("slide", x.slide(0, 120), 120);
    }

    private static void weight() {
        TrailerYards x = withTrailer();
        Check.due("weight", x.weight(1, false), BAD);
        Check.due("weight", x.weight(-1, true), BAD);
        expectWeight(x, false, 0, 1);
        expectWeight(x, true, 0, 1);
        x.load(0, 7, 30);
        expectWeight(x, false, 21, 10);
        expectWeight(x, true, 49, 10);
        x.slide(0, 63);
        expectWeight(x, false, 10, 3);
        expectWeight(x, true, 11, 3);
        x.load(0, 7, 130);
        expectWeight(x, false, 160, 9);
        expectWeight(x, true, -34, 9);
        x.slide(0, 80);
        expectWeight(x, true, 0, 1);
        expectWeight(x, false, 14, 1);
    }

    private static void expectWeight(TrailerYards x, boolean kingpin, long upper, long lower) {
        Check.due("weight", x.weight(0, kingpin), 1);
        Check.due("upper", x.upper(), upper);
        Check.due("lower", x.lower(), lower);
    }

    private static void lawful() {
        TrailerYards x = withTrailer();
        Check.due("lawful", x.lawful(1), BAD);
        Check.due("lawful", x.lawful(-1), BAD);
        x.law(0, 0);
        Check.due("empty", x.lawful(0), 1);
        x.load(0, 300, 50);
        Check.due("beyond both", x.lawful(0), 0);
        x.law(150, 150);
        Check.due("just so", x.lawful(0), 1);
        x.law(149, 150);
        Check.due("beyond MA", x.lawful(0), 0);
        x.law(150, 149);
        Check.due("beyond MK", x.lawful(0), 0);
        x.law(1000, 1000);
        x.unload(0);
        x.load(0, 300, 100);
        Check.due("nothing on the kingpin", x.lawful(0), 1);
        x.load(0, 1, 101);
        Check.due("less than nothing on it", x.lawful(0), 0);
        x.unload(0);
        x.law(33, 1000);
        x.slide(0, 60);
        x.load(0, 100, 20);
        Check.due("a third beyond MA", x.lawful(0), 0);
        x.law(34, 1000);
        Check.due("within MA", x.lawful(0), 1);
        x.law(34, 66);
        Check.due("two thirds beyond MK", x.lawful(0), 0);
    }

    private static void shift() {
        TrailerYards x = withTrailer();
        Check.due("shift", x.shift(1), BAD);
        Check.due("shift", x.shift(-1), BAD);
        Check.due("it is lawful", x.shift(0), 100);
        x.law(0, 0);
        x.load(0, 1, 0);
        Check.due("never lawful", x.shift(0), NONE);
        x.law(20000, 20000);
        x.unload(0);
        x.load(0, 10, 120);
        Check.due("at the far end", x.shift(0), 120);
        x.slide(0, 60);
        Check.due("at the far end", x.shift(0), 120);
        x.unload(0);
        x.load(0, 10, 30);
        x.slide(0, 120);
        x.law(100, 5);
        Check.due("at the near end", x.shift(0), 60);
        x.law(3, 8);
        Check.due("up", x.slide(0, 60), 120);
        Check.due("up", x.shift(0), 100);
    }

    /** Where it is lawful is looked at for all places, with a new object for each law. */
    private static void shiftIsNearest() {
        for (int mk = 0; mk < 1500; mk += 70) {
            for (int loads = 1; loads <= 4; loads++) {
                expectNearest(loads, mk, 1400 - mk);
            }
        }
    }

    private static void expectNearest(int loads, int axle, int kingpin) {
        int[][] all = {{100, 90}, {10, 60}, {1000, 10}, {500, 130}};
        TrailerYards x = withTrailer();
        x.law(Math.max(axle, 0), Math.max(kingpin, 0));
        for (int i = 0; i < loads; i++) {
            x.load(0, all[i][0], all[i][1]);
        }
        boolean[] lawful = new boolean[121];
        for (int a = 60; a <= 120; a++) {
            x.slide(0, a);
            lawful[a] = x.lawful(0) == 1;
        }
        for (int a = 60; a <= 120; a += 6) {
            int want = NONE;
            for (int b = 60; b <= 120; b++) {
                boolean nearer = want == NONE || Math.abs(b - a) < Math.abs(want - a);
                want = lawful[b] && nearer ? b : want;
            }
            x.slide(0, a);
            Check.due("shift", x.shift(0), want);
        }
    }

    private static void cold() {
        TrailerYards x = new TrailerYards();
        for (int kind = 0; kind < 4; kind++) {
            x.trailer(kind, 0, 0);
        }
        int[][] bad = {{4, 0, 0}, {-1, 0, 0}, {1, 6, 0}, {1, -1, 0}, {1, 0, 3}, {1, 0, -1}, {0, 6, 0}};
        for (int[] b : bad) {
            Check.due("cold", x.cold(b[0], b[1], b[2]), BAD);
        }
        Check.finds(x, "UNLIKE ahead of NOTHING", x.cold(0, 0, 0), UNLIKE);
        Check.finds(x, "cold", x.cold(2, 0, 0), UNLIKE);
        Check.finds(x, "cold", x.cold(1, 0, 0), NOTHING);
        x.row(0, 0);
        expectCold(x, 1, 0, 0, 0);
        Check.row(x, 0, 5, 6, GAP, 4, GAP, 5);
        expectCold(x, 1, 10, 30, 20);
        expectCold(x, 3, 40, 60, 60);
        Check.row(x, 0, GAP, GAP, GAP, -18, 0, -17, -1000, -998);
        expectCold(x, 3, 20, 50, 30);
        x.limit(3, -50);
        expectCold(x, 3, 30, 60, 60);
    }

    private static void expectCold(TrailerYards x, int t, int least, int most, int worst) {
        Check.due("LEAST", x.cold(t, 0, 0), least);
        Check.due("MOST", x.cold(t, 0, 1), most);
        Check.due("WORST", x.cold(t, 0, 2), worst);
    }

    private static void mean() {
        TrailerYards x = new TrailerYards();
        Check.due("mean", x.mean(6), BAD);
        Check.due("mean", x.mean(-1), BAD);
        Check.finds(x, "mean", x.mean(0), NOTHING);
        x.row(0, 0);
        Check.finds(x, "mean", x.mean(0), NOUGHT);
        Check.row(x, 0, GAP, GAP);
        Check.finds(x, "mean", x.mean(0), NOUGHT);
        expectMean(x, 2, 2, GAP, 3);
        expectMean(x, -2, -2, GAP, -3);
        expectMean(x, 0, 0, -1);
        expectMean(x, Integer.MAX_VALUE, Integer.MAX_VALUE, Integer.MAX_VALUE, Integer.MAX_VALUE);
        expectMean(x, Integer.MIN_VALUE, Integer.MIN_VALUE, Integer.MIN_VALUE);
    }

    private static void expectMean(TrailerYards x, int want, int... places) {
        Check.row(x, 0, places);
        Check.due("mean", x.mean(0), 1);
        Check.due("mean's asked", x.asked(), want);
    }

    private static void theft() {
        TrailerYards x = withTrailer();
        Check.due("theft", x.theft(1), BAD);
        Check.due("theft", x.theft(-1), BAD);
        x.lay(0, 0, 0);
        Check.due("never found broken", x.theft(0), STATE);
        x.seal(0, 3);
        Check.due("never found broken", x.theft(0), STATE);
        x.later(10);
        x.seal(0, 5);
        expectTheft(x, 10, 0);
        x.later(10);
        x.seal(0, 3);
        x.later(10);
        x.seal(0, 4);
        expectTheft(x, 10, 0);
        x.later(7);
        x.seal(0, 4);
        x.later(3);
        x.seal(0, 5);
        expectTheft(x, 3, 37);
        x.seal(0, 3);
        expectTheft(x, 3, 37);
    }

    private static void expectTheft(TrailerYards x, int minutes, int from) {
        Check.due("theft", x.theft(0), minutes);
        Check.due("theft's asked", x.asked(), from);
    }

    private static void hands() {
        TrailerYards x = withTrailer();
        x.trailer(0, 7, 0);
        Check.due("hands", x.hands(2), BAD);
        Check.due("hands", x.hands(-1), BAD);
        Check.due("never found broken", x.hands(0), STATE);
        x.hitch(1, 0);
        x.seal(0, 3);
        x.seal(0, 5);
        expectHands(x, 1, 1 << 9);
        x.drop(1);
        x.park(1, 7);
        x.hitch(1, 1);
        x.seal(0, 3);
        x.hitch(0, 0);
        x.seal(0, 4);
        x.drop(0);
        x.hitch(5, 0);
        x.lose(0);
        x.find(0, 6);
        x.seal(0, 5);
        x.park(2, 6);
        x.hitch(2, 0);
        expectHands(x, 4, 1 << 8 | 1 | 1 << 13 | 1 << 6);
        x.seal(0, 3);
        x.drop(2);
        x.hitch(2, 0);
        x.drop(2);
        x.seal(0, 5);
        expectHands(x, 2, 1 << 10 | 1 << 6);
    }

    private static void expectHands(TrailerYards x, int many, int bits) {
        Check.due("hands", x.hands(0), many);
        Check.due("hands' asked", x.asked(), bits);
    }
}
