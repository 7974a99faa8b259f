/** Numbers that look thrown but are the same in every run. */
final class Dice {
    private long state;

    Dice(long seed) {
        state = seed * 0x9E3779B97F4A7C15L + 12345;
    }

    /** One of 0 .. below - 1. */
    int roll(int below) {
        state = state * 6364136223846793005L + 1442695040888963407L;
        return (int) ((state >>> 33) % below);
    }

    boolean once(int in) {
        return roll(in) == 0;
    }

    String one(String... of) {
        return of[roll(of.length)];
    }
}
