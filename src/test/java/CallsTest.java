import java.util.Arrays;

/** All promises by runs of calls by chance, refused ones too, against a plain tape and the plain model. */
public final class CallsTest {
    private static final Checks checks = new Checks("calls");
    private static final int NONE = ReelReader.NONE;
    private static final int MOST_CALLS = 512;
    private static final int MOST_BITS = 32000;
    private static final int[] EDGES = {-1, 0, 1, 2, 3, 7, 8, 15, 16, 19, 20, 21, 32, 33, 64, 3980, 4000, 4001,
        Integer.MIN_VALUE, Integer.MAX_VALUE};

    private static int whole;

    private final Chance chance;
    private final ReelReader reader = new ReelReader();
    private final String run;
    private final StringBuilder tape = new StringBuilder();
    /** What is still to be put on the tape, so that there is something to be read. */
    private String stream = "";
    private PlainModel model;
    private int calls;

    private CallsTest(int seed) {
        chance = new Chance(seed);
        run = "run " + seed + ": ";
    }

    public static void main(String[] args) {
        for (int seed = 0; seed < 400 && checks.failures() == 0; seed++) {
            new CallsTest(seed).runAll();
        }
        checks.due("enough whole streams", whole > 200, true);
        checks.finish();
    }

    private void runAll() {
        // Some tapes are nearly full from the begin on.
        for (int i = chance.oneIn(8) ? chance.from(190, 201) : 0; i > 0; i--) {
            feed();
        }
        while (calls < MOST_CALLS) {
            int which = chance.below(40);
            if (which < 16) {
                bits();
            } else if (which < 18) {
                feed();
            } else if (which < 20) {
                end();
            } else if (which < 22) {
                read();
            } else {
                ask(which % 5);
            }
        }
    }

    private int edge() {
        return EDGES[chance.below(EDGES.length)];
    }

    private int byteCount() {
        return (tape.length() + 7) / 8;
    }

    private void toByte() {
        while (tape.length() % 8 != 0) {
            tape.append('0');
        }
    }

    private void appendBits(int value, int count) {
        for (int shift = count - 1; shift >= 0; shift--) {
            tape.append((value >> shift & 1) == 1 ? '1' : '0');
        }
    }

    private void feed() {
        int[] words = new int[5];
        for (int i = 0; i < 5; i++) {
            words[i] = chance.oneIn(2) ? edge() : chance.below(Integer.MAX_VALUE);
        }
        int due = NONE;
        if (byteCount() + 20 <= 4000) {
            toByte();
            for (int word : words) {
                appendBits(word, 32);
            }
            due = byteCount();
        }
        calls++;
        checks.due(run + "feed" + Arrays.toString(words), reader.feed(words[0], words[1], words[2], words[3], words[4]), due);
    }

    private void end() {
        int n = chance.oneIn(2) ? edge() : byteCount() - chance.from(-1, 2);
        boolean due = n >= 0 && n <= byteCount();
        if (due) {
            toByte();
            tape.setLength(8 * n);
        }
        calls++;
        checks.due(run + "end(" + n + ")", reader.end(n), due);
    }

    private void bits() {
        if (tape.length() == 0 && chance.oneIn(2)) {
            stream = new RandomStream(chance, chance.oneIn(2) ? 0 : 300).write(chance.below(4)).toString();
        }
        boolean given = !stream.isEmpty() && !chance.oneIn(20);
        int n = given ? Math.min(stream.length(), chance.from(1, 32)) : chance.oneIn(2) ? edge() : chance.from(1, 32);
        int v = given ? (int) Long.parseLong(stream.substring(0, n), 2) : edge();
        if (given && n < 32) {
            // Whatever stands above the lowest n bits does not count.
            v |= edge() << n;
        }
        int due = NONE;
        if (n >= 1 && n <= 32 && tape.length() + n <= MOST_BITS) {
            appendBits(v, n);
            due = tape.length();
            stream = given ? stream.substring(n) : stream;
        }
        calls++;
        checks.due(run + "bits(" + v + ", " + n + ")", reader.bits(v, n), due);
    }

    private void read() {
        // Mostly a stream that has been put on the tape whole.
        while (!stream.isEmpty() && calls < MOST_CALLS - 1 && chance.below(100) > 0) {
            bits();
        }
        model = new PlainModel(tape.toString());
        whole += model.wrong == NONE ? 1 : 0;
        tape.setLength(0);
        stream = "";
        calls++;
        checks.due(run + "read()", reader.read(), model.shown.size());
    }

    private void ask(int which) {
        int k = chance.oneIn(4) ? edge() : chance.below(4);
        int what = chance.oneIn(4) ? edge() : chance.below(8);
        calls++;
        if (which == 0) {
            checks.due(run + "wrong()", reader.wrong(), model == null ? NONE : model.wrong);
        } else if (which == 1) {
            boolean none = what < 0 || what > 7;
            int due = none ? Checks.THROWS : model == null ? 0 : model.look[what];
            checks.due(run + "look(" + what + ")", Checks.look(reader, what), due);
        } else if (which == 2) {
            what = what & 7;
            checks.due(run + "shown(" + k + ", " + what + ")", Checks.shown(reader, k, what), fact(k, what));
        } else {
            askDots(which == 3, k, chance.oneIn(4) ? edge() : chance.below(3));
        }
    }

    private PlainModel.Still still(int k) {
        return model == null || k < 0 || k > 19 || k >= model.shown.size() ? null : model.shown.get(k);
    }

    private int fact(int k, int what) {
        PlainModel.Still still = still(k);
        if (still == null || what > 3) {
            return Checks.THROWS;
        }
        int[] facts = {still.sort, still.number, still.inner, still.passed};
        return facts[what];
    }

    private void askDots(boolean one, int k, int plane) {
        PlainModel.Still still = still(k);
        int[][] dots = still == null || plane < 0 || plane > 2 ? null : still.dots[plane];
        if (!one) {
            checks.due(run + "sum(" + k + ", " + plane + ")", reader.sum(k, plane), dots == null ? NONE : PlainModel.sum(dots));
            return;
        }
        int x = chance.oneIn(4) ? edge() : chance.below(64);
        int y = chance.oneIn(4) ? edge() : chance.below(64);
        boolean inside = dots != null && y >= 0 && y < dots.length && x >= 0 && x < dots[0].length;
        checks.due(run + "dot(" + k + ", " + plane + ", " + x + ", " + y + ")", reader.dot(k, plane, x, y), inside ? dots[y][x] : NONE);
    }
}
