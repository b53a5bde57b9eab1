/** A small generator of the tests' own, so that a seed tells the same run everywhere. */
final class Draws {
    private long state;

    Draws(long seed) {
        state = seed * 0x9E3779B97F4A7C15L + 1;
    }

    int upTo(int bound) {
        state = state * 6364136223846793005L + 1442695040888963407L;
        return (int) ((state >>> 33) % bound);
    }
}
