import java.util.ArrayList;
import java.util.List;

/** All that an object tells without being changed, but for finding() and findings(), by some two hundred calls. */
final class State {
    private final TrailerYards x;
    private final List<Long> values = new ArrayList<>();

    private State(TrailerYards x) {
        this.x = x;
    }

    /** First finding(), then findings(1) to findings(5), then the rest. */
    static long[] of(TrailerYards x) {
        State s = new State(x);
        s.add(x.finding());
        for (int f = 1; f <= 5; f++) {
            s.add(x.findings(f));
        }
        s.add(x.asked(), x.pence(), x.upper(), x.lower(), x.digest());
        s.addPlans();
        s.addForce();
        s.addTrailers();
        return s.values.stream().mapToLong(v -> v).toArray();
    }

    private void add(long... more) {
        for (long v : more) {
            values.add(v);
        }
    }

    private void addPlans() {
        for (int k = 0; k < 6; k++) {
            add(x.partner(k));
        }
        for (int i = 0; i < 7; i++) {
            add(x.looked(i));
        }
        for (int d = 0; d < 41 && x.rented(d) >= 0; d++) {
            add(x.rented(d));
        }
    }

    private void addForce() {
        for (int y = 0; y < 8; y++) {
            add(x.force(0, y, 69, 69), x.force(1, y, 69, 69));
        }
        add(x.force(2, 0, 69, 69), x.force(3, 0, 69, 69));
    }

    private void addTrailers() {
        int trailers = x.count(1);
        for (int t = 0; t < trailers; t++) {
            for (int kind = 1; kind <= 3; kind++) {
                add(x.mark(t, kind));
            }
            for (boolean kingpin : new boolean[] {false, true}) {
                x.weight(t, kingpin);
                add(x.upper(), x.lower());
            }
        }
    }
}
