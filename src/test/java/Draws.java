/** The draws that a SEED makes, one behind the other. */
final class Draws {
    private Draws() {
    }

    /** SEED behind so many draws. */
    static int behind(int seed, int many) {
        long s = seed;
        for (int i = 0; i < many; i++) {
            s = (75 * s + 74) % 65537;
        }
        return (int) s;
    }

    /** A SEED whose first draw mod 100 is from .. to by the first two numbers, the second by the next two, and so on. */
    static int seed(int... bounds) {
        for (int seed = 0; seed < 65537; seed++) {
            boolean fits = true;
            for (int i = 0; i < bounds.length && fits; i += 2) {
                int draw = behind(seed, i / 2 + 1) % 100;
                fits = draw >= bounds[i] && draw <= bounds[i + 1];
            }
            if (fits) {
                return seed;
            }
        }
        throw new IllegalArgumentException("no such SEED");
    }
}
