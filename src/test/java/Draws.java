/** The numbers that are drawn, as the document tells them under "Draws, secrets, parts". */
final class Draws {
    int x;

    Draws(int x) {
        this.x = x;
    }

    int next(int outOf) {
        x = (75 * x + 74) % 65537;
        return x / 16 % outOf;
    }

    /** Draws a version: both parts, both tags, then what each store checks by: {p0, p1, tag0, tag1, f0, f1, s0, s1}. */
    int[] version(int secret) {
        int part0 = next(256);
        int part1 = (secret - part0 + 256) % 256;
        int factorFor0 = next(256) + 1;
        int sumFor0 = next(257);
        int factorFor1 = next(256) + 1;
        int sumFor1 = next(257);
        int tag0 = (factorFor0 * part0 + sumFor0) % 257;
        int tag1 = (factorFor1 * part1 + sumFor1) % 257;
        // The store 1 has the check of the part 0, and the other way round.
        return new int[] {part0, part1, tag0, tag1, factorFor1, factorFor0, sumFor1, sumFor0};
    }
}
