/** Draws, as section 2 of the document tells them. */
final class Draws {
    private long s;

    Draws(int seed) {
        s = seed;
    }

    int by(int n) {
        s = (s * 2903 + 7187) % 65536;
        return (int) (s / 8 % n);
    }

    /** Which one it is, of some that have so many each: the first ones, then the next ..; all of them together without an end. */
    int among(int of, int... parts) {
        int left = by(of);
        for (int k = 0; k < parts.length; k++) {
            left -= parts[k];
            if (left < 0) {
                return k;
            }
        }
        return parts.length;
    }
}
