import java.util.ArrayList;
import java.util.List;

/**
 * A run of calls on one new object, for one sentence of the document that names a boundary case. A call that is refused
 * is held to change nothing but finding() and findings(): the run is made once more without it, and all that can be
 * asked must be the same.
 */
final class Run {
    private static final int MOST_CALLS = 512;
    private static final Calls CALLS = new Calls(TrailerYards.class);

    private final String sentence;
    private final TrailerYards x = new TrailerYards();
    private final List<String> made = new ArrayList<>();

    private Run(String sentence) {
        this.sentence = sentence;
    }

    /** A run for words of a promise. */
    static Run promise(int number, String words) {
        Check.holds("promise " + number + " says: " + words, Document.promise(number).contains(words));
        return new Run("promise " + number + ", " + words);
    }

    /** A run for words that stand ahead of the promises. */
    static Run terms(String words) {
        Check.holds("the terms say: " + words, Document.terms().contains(words));
        return new Run("terms, " + words);
    }

    /** Another new object for the same sentence. */
    Run anew() {
        return new Run(sentence);
    }

    /** Calls, with ; between them, that are not refused. */
    Run after(String calls) {
        for (String call : calls.split(" *; *")) {
            long got = answer(call);
            if (got < 0 && got != TrailerYards.NONE) {
                wrong(call, got, "an answer that is no refusal");
            }
        }
        return this;
    }

    Run due(String call, long want) {
        long got = answer(call);
        if (got != want) {
            wrong(call, got, String.valueOf(want));
        }
        return this;
    }

    /** Calls, with ; between them, that answer the same. */
    Run each(String calls, long want) {
        for (String call : calls.split(" *; *")) {
            due(call, want);
        }
        return this;
    }

    /** A call that tells more by asked(). */
    Run tells(String call, long want, long asked) {
        return due(call, want).due("asked()", asked);
    }

    /** A call of which just what it tells by asked() is looked at. */
    Run asks(String call, long asked) {
        return after(call).due("asked()", asked);
    }

    /** Calls, with ; between them, that are refused so. */
    Run bad(String calls) {
        return refused(calls, TrailerYards.BAD, 0);
    }

    /** The same calls are BAD with each of these numbers in the place of #. */
    Run badWith(String[] numbers, String calls) {
        for (String number : numbers) {
            bad(calls.replace("#", number));
        }
        return this;
    }

    Run full(String calls) {
        return refused(calls, TrailerYards.FULL, 0);
    }

    Run state(String calls) {
        return refused(calls, TrailerYards.STATE, 0);
    }

    Run finds(int finding, String calls) {
        return refused(calls, TrailerYards.FINDING, finding);
    }

    /** Makes a row with these places. */
    Run row(int r, int... places) {
        due("row(" + r + ", " + places.length + ")", places.length);
        for (int i = 0; i < places.length; i++) {
            if (places[i] != 0) {
                due("lay(" + r + ", " + i + ", " + places[i] + ")", 1);
            }
        }
        return this;
    }

    /** Writes a text with these signs. */
    Run text(int t, String signs) {
        due("text(" + t + ", " + signs.length() + ")", signs.length());
        for (int i = 0; i < signs.length(); i++) {
            if (signs.charAt(i) != ' ') {
                due("put(" + t + ", " + i + ", " + (int) signs.charAt(i) + ")", 1032);
            }
        }
        return this;
    }

    /** A text told as terms. */
    Run told(String signs, int from) {
        return text(3, signs).after("terms(3, " + from + ")");
    }

    /** The same calls again and again, as often as told. */
    Run times(int many, String calls) {
        for (int i = 0; i < many; i++) {
            after(calls);
        }
        return this;
    }

    private Run refused(String calls, long answer, int finding) {
        for (String call : calls.split(" *; *")) {
            long[] without = stateAfter(null);
            long[] with = stateAfter(call);
            if (finding > 0) {
                without[0] = finding;
                without[finding]++;
            }
            due(call, answer);
            for (int i = 0; i < with.length; i++) {
                if (i >= without.length || with[i] != without[i]) {
                    wrong(call, answer, "no other state: value " + i);
                    break;
                }
            }
        }
        return this;
    }

    private long answer(String call) {
        made.add(call);
        Check.holds(sentence + ": at most " + MOST_CALLS + " calls", made.size() <= MOST_CALLS);
        return CALLS.answer(x, call);
    }

    private void wrong(String call, long got, String want) {
        int from = Math.max(0, made.size() - 12);
        Check.wrong(sentence + ": " + call + " answered " + got + ", due is " + want);
        System.out.println("    behind " + from + " calls: " + made.subList(from, made.size()));
    }

    /** All that can be asked of another object behind the same calls and perhaps one more. */
    private long[] stateAfter(String oneMore) {
        TrailerYards y = new TrailerYards();
        List<String> calls = new ArrayList<>(made);
        if (oneMore != null) {
            calls.add(oneMore);
        }
        for (String call : calls) {
            CALLS.answer(y, call);
        }
        long[] state = State.of(y);
        int most = calls.size() + state.length + 64;
        Check.holds(sentence + ": a state is read by less than " + MOST_CALLS + " calls", most <= MOST_CALLS);
        return state;
    }
}
