/** Numbers that look thrown, but are the same for the same seed (a xorshift generator). */
final class Dice {
    private long state;

    Dice(int seed) {
        state = 0x9E3779B97F4A7C15L * (seed + 1L) + 12345;
        for (int i = 0; i < 8; i++) {
            next();
        }
    }

    private long next() {
        state ^= state << 13;
        state ^= state >>> 7;
        state ^= state << 17;
        return state;
    }

    int below(int bound) {
        return (int) Long.remainderUnsigned(next() >>> 16, bound);
    }
}
