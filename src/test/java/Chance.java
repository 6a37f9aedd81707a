/** Numbers that look like chance and are the same in every run. */
final class Chance {
    private long state;

    Chance(long seed) {
        state = seed * 0x9E3779B97F4A7C15L + 1;
    }

    int below(int bound) {
        state = state * 6364136223846793005L + 1442695040888963407L;
        return (int) Math.floorMod(state >>> 33, (long) bound);
    }

    int from(int low, int high) {
        return low + below(high - low + 1);
    }

    boolean oneIn(int n) {
        return below(n) == 0;
    }
}
