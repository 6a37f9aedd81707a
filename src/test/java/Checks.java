import java.util.NoSuchElementException;

/** Counts and prints the answers that are not as due. */
final class Checks {
    /** What a call of look() or shown() that throws is written as: no answer is that low. */
    static final int THROWS = Integer.MIN_VALUE;

    private final String name;
    private int failures;

    Checks(String name) {
        this.name = name;
    }

    void due(String call, long got, long want) {
        if (got != want) {
            failures++;
            if (failures <= 40) {
                System.out.println(name + ": " + call + " answered " + got + ", due is " + want);
            }
        }
    }

    void due(String call, boolean got, boolean want) {
        due(call, got ? 1 : 0, want ? 1 : 0);
    }

    int failures() {
        return failures;
    }

    static int look(ReelReader reader, int what) {
        try {
            return reader.look(what);
        } catch (NoSuchElementException none) {
            return THROWS;
        }
    }

    static int shown(ReelReader reader, int k, int what) {
        try {
            return reader.shown(k, what);
        } catch (NoSuchElementException none) {
            return THROWS;
        }
    }

    void finish() {
        System.out.println(failures == 0 ? "all answers are as due" : failures + " answers are not as due");
        if (failures != 0) {
            System.exit(1);
        }
    }
}
