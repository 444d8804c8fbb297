/** Numbers that look thrown, the same in each run. */
final class Dice {
    private long state;

    Dice(long seed) {
        state = seed * 7919L + 12345L;
    }

    int below(int bound) {
        state = state * 6364136223846793005L + 1442695040888963407L;
        return (int) ((state >>> 33) % bound);
    }

    /** Mostly a number from least to most; now and then one that is out of range. */
    int about(int least, int most) {
        if (below(40) == 0) {
            int[] wrong = {least - 1, most + 1, -1, Integer.MIN_VALUE, Integer.MAX_VALUE, most + 100};
            return wrong[below(wrong.length)];
        }
        return least + below(most - least + 1);
    }
}
