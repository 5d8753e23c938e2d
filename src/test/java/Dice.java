/** A row of numbers that is the same in every run. */
final class Dice {
    private long state;

    Dice(long seed) {
        state = seed * 2862933555777941757L + 3037000493L;
    }

    int below(int n) {
        state = state * 6364136223846793005L + 1442695040888963407L;
        return (int) Math.floorMod(state >>> 33, (long) n);
    }

    int from(int least, int most) {
        return least + below(most - least + 1);
    }

    boolean coin() {
        return below(2) == 1;
    }
}
