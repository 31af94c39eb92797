/** Numbers that look random and are the same in every run. */
final class Dice {
    private long state;

    Dice(long seed) {
        state = seed * 0x9E3779B97F4A7C15L + 1;
    }

    /** Returns one of 0 to count - 1. */
    int below(int count) {
        state = state * 6364136223846793005L + 1442695040888963407L;
        return (int) Math.floorMod(state >>> 33, (long) count);
    }

    int from(int least, int most) {
        return least + below(most - least + 1);
    }

    boolean once(int in) {
        return below(in) == 0;
    }

    int oneOf(int... values) {
        return values[below(values.length)];
    }
}
