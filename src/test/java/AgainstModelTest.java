import java.util.ArrayList;
import java.util.Arrays;
import java.util.List;
import java.util.Random;

/** Many runs of calls, by a random source with a known seed, answered by the class and by the model alike. */
public final class AgainstModelTest {
    private static final int RUNS = 1500, CALLS = 512;
    private static final Calls OURS = new Calls(TrailerYards.class), THEIRS = new Calls(Model.class);

    /** For each call how often it is taken, and for each number the range from which it mostly comes. */
    private static final String[] CALLS_AND_RANGES = {
        "row 2 0..5 0..40", "lay 4 0..5 0..9 -20..110", "tear 1 0..5", "copy 3 0..5 0..9 0..5 0..9 0..9",
        "text 1 0..3 0..40", "put 3 0..3 0..20 30..90", "fault 3 0..3", "later 12 0..500", "way 5 0..7 0..7 1..600 0..999",
        "ferry 3 0..7 0..7 1..1440 0..700", "comes 4 0..7 0..99999 0..7", "toll 3 0..7 0..7", "trailer 6 0..3 0..7 0..100000",
        "told 3 0..11 0..7", "mark 4 0..11 1..3", "limit 3 0..11 -50..50", "park 5 0..5 0..7", "hitch 14 0..5 0..11",
        "drop 6 0..5", "go 12 0..5 0..7", "tractor 4 0..5 0..4", "lose 3 0..11", "find 3 0..11 0..7", "seal 6 0..11 3..5",
        "book 4 0..11 0..9 0..2", "where 4 0..11 0..9000", "terms 3 0..3 0..9", "force 5 0..3 0..7 0..9 0..9",
        "detention 5 0..11", "pence 0", "law 2 0..100000 0..100000", "load 6 0..11 1..20000 0..130", "unload 1 0..11",
        "slide 4 0..11 60..120", "weight 4 0..11 0..1", "lawful 3 0..11", "shift 4 0..11", "cold 4 0..11 0..5 0..2",
        "mean 2 0..5", "theft 4 0..11", "hands 4 0..11", "swap 8 0..5 0..5 0..7 0..7", "pairs 6 0..63 0..5",
        "partner 1 0..5", "late 8 0..5 0..5 0..7 0..7 0..2000 0..20000", "canBe 4 0..11", "look 4 0..11 0..7 0..5",
        "looked 1 0..6", "pool 3 0..5 0..5", "rent 3 0..5 0..9 0..1000 0..1000 0..1000", "rented 1 0..20", "asked 0",
        "upper 0", "lower 0", "count 2 0..7", "finding 0", "findings 2 1..5", "digest 1"};

    private static final String[] SIDE = {"asked", "pence", "upper", "lower", "finding"};

    /** What is asked at the end of a run: each side and the digest. */
    private static final int LAST_CALLS = SIDE.length + 1;

    private final Random random;
    private final List<String[]> bag = new ArrayList<>();
    private final List<String> history = new ArrayList<>();
    private final int[] answered = new int[CALLS_AND_RANGES.length];
    private TrailerYards x;
    private Model model;
    private boolean differs;

    private AgainstModelTest(long seed) {
        random = new Random(seed);
        for (String line : CALLS_AND_RANGES) {
            String[] words = line.split(" ");
            for (int i = 0; i < Integer.parseInt(words[1]); i++) {
                bag.add(words);
            }
        }
    }

    public static void main(String[] args) {
        AgainstModelTest test = new AgainstModelTest(20261118);
        for (int run = 0; run < RUNS && !test.differs; run++) {
            test.run();
        }
        test.expectAllAnswered();
        Check.end();
    }

    /** A test that never gets an answer from a call that is not refused would show nothing of it. */
    private void expectAllAnswered() {
        for (int i = 0; i < answered.length && !differs; i++) {
            String[] words = CALLS_AND_RANGES[i].split(" ");
            if (Integer.parseInt(words[1]) > 0) {
                Check.holds("often answered: " + words[0] + ", " + answered[i], answered[i] > 150);
            }
        }
    }

    private void run() {
        x = new TrailerYards();
        model = new Model();
        history.clear();
        setUp();
        while (history.size() < CALLS - LAST_CALLS && !differs) {
            int dice = random.nextInt(60);
            if (dice < 6) {
                scene(dice);
            } else {
                callAny();
            }
        }
        for (String side : SIDE) {
            compare(side);
        }
        compare("digest");
    }

    /** A few calls together that seldom come together by themselves. */
    private void scene(int which) {
        int t = random.nextInt(6);
        switch (which) {
            case 0:
                writeText();
                break;
            case 1:
                askPairs();
                break;
            case 2:
                call("lose", t);
                call("later", random.nextInt(300));
                layRow(1, 8, 0, random.nextBoolean() ? 3 : 100);
                call("look", t, random.nextInt(8), 1);
                call("canBe", t);
                break;
            case 3:
                layRow(2, 8, 0, random.nextBoolean() ? 3 : 30);
                layRow(3, 8, 0, random.nextBoolean() ? 3 : 30);
                call("pool", 2, 3);
                break;
            case 4:
                layRow(4, 1 + random.nextInt(15), 0, 9);
                call("rent", 4, random.nextInt(4), random.nextInt(9), random.nextInt(9), random.nextInt(20));
                break;
            default:
                breakSeal(t);
        }
    }

    private void askPairs() {
        layRow(0, 6, 0, 7);
        int[] sets = {63, 15, 3, 51, 60, 5, 10, 48};
        call("pairs", sets[random.nextInt(sets.length)], 0);
        call("copy", 0, random.nextInt(4), random.nextInt(2), random.nextInt(4), random.nextInt(4));
        int a = random.nextInt(6);
        int b = random.nextInt(6);
        call("swap", a, b, random.nextInt(8), random.nextInt(8));
        int dawn = Math.min(99999, model.count(0) + random.nextInt(2000));
        call("late", a, b, random.nextInt(8), random.nextInt(8), random.nextInt(2001), dawn);
    }

    private void breakSeal(int t) {
        call("find", t, random.nextInt(8));
        call("seal", t, 3);
        for (int i = 0; i < 3; i++) {
            call("drop", random.nextInt(6));
            call("hitch", random.nextInt(6), t);
            call("later", random.nextInt(5));
            call("seal", t, 4);
        }
        call("seal", t, 5);
        call("theft", t);
        call("hands", t);
    }

    private void setUp() {
        int joined = random.nextInt(24);
        int longest = random.nextBoolean() ? 600 : 60;
        for (int i = 0; i < joined; i++) {
            int a = random.nextInt(8);
            int b = random.nextInt(8);
            call("way", a, b, 1 + random.nextInt(longest), random.nextInt(50));
            if (random.nextInt(4) == 0) {
                int every = 1 + random.nextInt(300);
                call("ferry", a, b, every, random.nextInt(every));
            }
        }
        int trailers = random.nextInt(12);
        for (int t = 0; t < trailers; t++) {
            int yard = random.nextInt(8);
            call("trailer", random.nextInt(4), yard, random.nextInt(5000));
            if (t < 6) {
                call("park", t, yard);
                call("hitch", t, t);
            }
        }
        askPairs();
        writeText();
        layRow(5, 12, -30, 30);
    }

    /** A row as those calls want it that take one, with gaps where it may be below nought. */
    private void layRow(int r, int size, int least, int most) {
        call("row", r, size);
        for (int i = 0; i < size; i++) {
            if (random.nextInt(3) > 0) {
                boolean gap = least < 0 && random.nextInt(4) == 0;
                call("lay", r, i, gap ? -999 : least + random.nextInt(most - least + 1));
            }
        }
    }

    private void writeText() {
        StringBuilder signs = new StringBuilder();
        int items = random.nextInt(5);
        for (int i = 0; i < items; i++) {
            String blanks = " ".repeat(random.nextInt(3));
            char letter = "FDHR".charAt(random.nextInt(4));
            String yard = letter == 'F' || letter == 'D' ? "" + random.nextInt(8) : "";
            signs.append(blanks).append(letter).append(yard).append(random.nextInt(random.nextBoolean() ? 10 : 2000));
        }
        if (random.nextInt(4) == 0 && signs.length() > 0) {
            signs.setCharAt(random.nextInt(signs.length()), "FDHR 0189x".charAt(random.nextInt(10)));
        }
        int t = random.nextInt(4);
        int size = Math.min(40, signs.length() + random.nextInt(2));
        call("text", t, size);
        for (int i = 0; i < Math.min(size, signs.length()); i++) {
            call("put", t, i, signs.charAt(i));
        }
        call("terms", t, random.nextInt(8));
    }

    private void callAny() {
        String[] words = bag.get(random.nextInt(bag.size()));
        int[] numbers = new int[words.length - 2];
        for (int i = 0; i < numbers.length; i++) {
            String[] range = words[i + 2].split("\\.\\.");
            numbers[i] = number(Integer.parseInt(range[0]), Integer.parseInt(range[1]));
        }
        call(words[0], numbers);
    }

    private int number(int least, int most) {
        int[] odd = {least - 1, most + 1, Integer.MIN_VALUE, Integer.MAX_VALUE, random.nextInt(), -1};
        if (random.nextInt(60) == 0) {
            return odd[random.nextInt(odd.length)];
        }
        return random.nextInt(5) == 0 ? (random.nextBoolean() ? least : most) : least + random.nextInt(most - least + 1);
    }

    private void call(String name, int... numbers) {
        if (differs || history.size() >= CALLS - LAST_CALLS) {
            return;
        }
        long got = compare(name, numbers);
        if (got >= 0 || got == -9) {
            answered[indexOf(name)]++;
        }
        if (random.nextBoolean()) {
            ask(SIDE[random.nextInt(SIDE.length)]);
        }
        int[] behind = {name.equals("pairs") ? 6 : 0, name.equals("look") ? 7 : 0, name.equals("rent") ? 16 : 0};
        String[] asks = {"partner", "looked", "rented"};
        for (int a = 0; a < 3; a++) {
            for (int i = 0; i < behind[a]; i++) {
                ask(asks[a], i);
            }
        }
    }

    /** Asks for what an earlier call told, while the object may be used. */
    private void ask(String name, int... numbers) {
        if (history.size() < CALLS - LAST_CALLS) {
            compare(name, numbers);
        }
    }

    private static int indexOf(String name) {
        for (int i = 0; i < CALLS_AND_RANGES.length; i++) {
            if (CALLS_AND_RANGES[i].startsWith(name + " ")) {
                return i;
            }
        }
        throw new IllegalArgumentException(name);
    }

    private long compare(String name, int... numbers) {
        history.add(name + Arrays.toString(numbers));
        long got = OURS.answer(x, name, numbers);
        long due = THEIRS.answer(model, name, numbers);
        if (got != due && !differs) {
            differs = true;
            history.forEach(System.out::println);
            Check.due(name + Arrays.toString(numbers), got, due);
        }
        return got;
    }
}
