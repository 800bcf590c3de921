/** Numbers that look mixed and are the same in each run. */
final class Numbers {
    private long state;

    Numbers(long seed) {
        state = seed * 0x9E3779B97F4A7C15L + 1;
    }

    // From 0 up to below the bound.
    int below(int bound) {
        state = state * 6364136223846793005L + 1442695040888963407L;
        return (int) Math.floorMod(state >>> 33, (long) bound);
    }

    int between(int least, int greatest) {
        return least + below(greatest - least + 1);
    }

    boolean oneIn(int times) {
        return below(times) == 0;
    }
}
