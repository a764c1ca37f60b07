/** Numbers that look as if by chance, the same in every run. */
final class Chance {
    private long state;

    Chance(long seed) {
        state = seed * 2862933555777941757L + 3037000493L;
    }

    /** 0 up to below n. */
    int below(int n) {
        state = state * 6364136223846793005L + 1442695040888963407L;
        return (int) ((state >>> 33) % n);
    }

    int from(int low, int high) {
        return low + below(high - low + 1);
    }

    boolean in(int n) {
        return below(n) == 0;
    }
}
