import java.util.Arrays;
import java.util.Random;

/**
 * Each call with each of its numbers at, just within and just outside its bounds, and as far outside as can be, on an
 * object that holds all there is, answered by the class and by the model alike.
 */
public final class EdgesTest {
    private static final Calls OURS = new Calls(TrailerYards.class), THEIRS = new Calls(Model.class);
    private static final int MOST_TRIALS = 2500;

    /** Trailer 0 is hitched to 0, 1 to 1, 3 to 5 on the way; 2 is lost; 4 was found broken and stands in 1. */
    private static final String WORLD = "way(0, 1, 10, 3); way(1, 2, 20, 4); ferry(1, 2, 50, 7); way(2, 6, 600, 999);"
        + "trailer(0, 0, 5000); trailer(1, 0, 900); trailer(2, 1, 70); trailer(3, 1, 8); trailer(0, 1, 100000);"
        + "text(0, 5); put(0, 0, 72); put(0, 1, 53); put(0, 2, 48); put(0, 3, 82); put(0, 4, 57); text(1, 1); put(1, 0, 68);"
        + "text(2, 0); terms(0, 0); hitch(0, 0); hitch(1, 1); seal(4, 3); later(3); seal(4, 4); later(30); seal(4, 5);"
        + "load(0, 70, 33); load(0, 20000, 130); load(1, 300, 90); lose(2); park(5, 1); hitch(5, 3); row(0, 6);"
        + "row(1, 8); lay(1, 0, 5); lay(1, 1, 1); lay(1, 2, 2); row(2, 8); lay(2, 1, 3); lay(2, 6, 4); lay(2, 7, 1);"
        + "row(3, 3); lay(3, 0, 9); lay(3, 1, -999); lay(3, 2, 4); row(4, 0); pairs(3, 0); later(100); look(2, 0, 1);"
        + "rent(1, 1, 1, 2, 9); detention(4); weight(0, true); cold(3, 3, 0); terms(0, 1); go(5, 0); tractor(5, 1)";

    /** The bounds of each call's numbers; in such a world, where the document's are wider. */
    private static final String[] BOUNDS = {
        "row 0..5 0..40", "lay 0..5 0..7 -1..0", "tear 0..5", "copy 0..5 0..6 0..5 0..8 0..8", "text 0..3 0..40",
        "put 0..3 0..4 -128..127", "fault 0..3", "later 0..99866", "way 0..7 0..7 1..600 0..999",
        "ferry 0..7 0..7 1..1440 0..1439", "comes 0..7 0..99999 0..7", "toll 0..7 0..7", "trailer 0..3 0..7 0..100000",
        "told 0..4 0..7", "mark 0..4 1..3", "limit 0..4 -50..50", "park 0..5 0..7", "hitch 0..5 0..4", "drop 0..5",
        "go 0..5 0..7", "tractor 0..5 0..4", "lose 0..4", "find 0..4 0..7", "seal 0..4 3..5", "book 0..4 0..3 0..2",
        "where 0..4 0..133", "terms 0..3 0..69", "force 0..3 0..7 0..69 0..69", "detention 0..4", "law 0..100000 0..100000",
        "load 0..4 1..20000 0..130", "unload 0..4", "slide 0..4 60..120", "weight 0..4 0..1", "lawful 0..4", "shift 0..4",
        "cold 0..4 0..5 0..2", "mean 0..5", "theft 0..4", "hands 0..4", "swap 0..5 0..5 0..7 0..7", "pairs 0..63 0..5",
        "partner 0..5", "late 0..5 0..5 0..7 0..7 0..2000 0..99999", "canBe 0..4", "look 0..4 0..7 0..5", "looked 0..1",
        "pool 0..5 0..5", "rent 0..5 0..9 0..1000 0..1000 0..1000", "rented 0..7", "count 0..7", "findings 1..5"};

    private static final String[] AFTER = {"asked()", "pence()", "upper()", "lower()", "finding()", "digest()"};

    private final Random random = new Random(59);
    private boolean differs;

    public static void main(String[] args) {
        EdgesTest test = new EdgesTest();
        for (String line : BOUNDS) {
            test.tryEdges(line.split(" "));
        }
        Check.end();
    }

    /** All edges with one another, or as many of them as may be tried. */
    private void tryEdges(String[] words) {
        int[][] edges = new int[words.length - 1][];
        long all = 1;
        for (int i = 0; i < edges.length; i++) {
            String[] range = words[i + 1].split("\\.\\.");
            edges[i] = edgesOf(Integer.parseInt(range[0]), Integer.parseInt(range[1]));
            all *= edges[i].length;
        }
        for (int trial = 0; trial < Math.min(all, MOST_TRIALS); trial++) {
            long which = all <= MOST_TRIALS ? trial : random.nextLong(all);
            int[] numbers = new int[edges.length];
            for (int i = 0; i < edges.length; i++) {
                numbers[i] = edges[i][(int) (which % edges[i].length)];
                which /= edges[i].length;
            }
            compare(words[0], numbers);
        }
    }

    /** Small ranges whole, and what lies around them. */
    private static int[] edgesOf(int least, int most) {
        int[] around = {least - 1, most + 1, Integer.MIN_VALUE, Integer.MAX_VALUE};
        int[] within = most - least < 8 ? new int[most - least + 1] : new int[] {least, least + 1, most - 1, most};
        for (int i = 0; i < within.length && most - least < 8; i++) {
            within[i] = least + i;
        }
        int[] edges = Arrays.copyOf(within, within.length + around.length);
        System.arraycopy(around, 0, edges, within.length, around.length);
        return edges;
    }

    private void compare(String name, int... numbers) {
        if (differs) {
            return;
        }
        TrailerYards x = new TrailerYards();
        Model model = new Model();
        for (String call : WORLD.split(" *; *")) {
            expect(call, OURS.answer(x, call), THEIRS.answer(model, call));
        }
        String call = name + Arrays.toString(numbers);
        expect(call, OURS.answer(x, name, numbers), THEIRS.answer(model, name, numbers));
        for (String side : AFTER) {
            expect(side + " behind " + call, OURS.answer(x, side), THEIRS.answer(model, side));
        }
        for (int f = 1; f <= 5; f++) {
            expect("findings behind " + call, x.findings(f), model.findings(f));
        }
    }

    private void expect(String what, long got, long due) {
        differs = differs || got != due;
        Check.due(what, got, due);
    }
}
