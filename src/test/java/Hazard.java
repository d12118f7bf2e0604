/** Numbers that look drawn by lot and are the same in every run. */
final class Hazard {
    private long state;

    Hazard(long seed) {
        state = seed * 0x9E3779B97F4A7C15L + 0x123456789L;
    }

    int below(int bound) {
        state = state * 6364136223846793005L + 1442695040888963407L;
        return (int) ((state >>> 33) % bound);
    }

    boolean isOneOf(int bound) {
        return below(bound) == 0;
    }
}
