import java.math.BigInteger;

/** The document's states and choices of a SEED, reckoned without a machine word that could wrap. */
final class Seeded {
    private static final BigInteger ROUND = BigInteger.ONE.shiftLeft(64);
    private static final BigInteger FACTOR = new BigInteger("6364136223846793005");
    private static final BigInteger MORE = new BigInteger("1442695040888963407");

    private BigInteger x;

    Seeded(long seed) {
        x = BigInteger.valueOf(seed).mod(ROUND);
    }

    int upTo(int m) {
        x = x.multiply(FACTOR).add(MORE).mod(ROUND);
        return x.shiftRight(33).mod(BigInteger.valueOf(m + 1)).intValueExact();
    }

    /** As INT draws it in a TRY of SIZE z. */
    int sized(int m, int z) {
        return upTo(m > z + 1 ? z + 1 : m);
    }
}
