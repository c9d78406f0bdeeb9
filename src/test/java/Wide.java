/** Generators that give many numbers: pairs of pairs, none more than seven deep. */
final class Wide {
    /** The number of the generator that gives as many numbers as the name tells. */
    static final int ONE = 0;
    static final int FIFTY_NINE = 14;
    static final int SIXTY = 15;
    static final int SIXTY_ONE = 16;
    /** How many generators there are. */
    static final int COUNT = 17;

    private static final int[][] PAIRS = {
        {0, 0}, {1, 1}, {2, 2}, {3, 3}, {4, 4},           // 2, 4, 8, 16, 32
        {1, 0}, {6, 6}, {2, 6}, {7, 8}, {8, 8},           // 3, 6, 7, 13, 14
        {9, 10}, {10, 10}, {4, 9},                        // 27, 28, 29
        {5, 11}, {5, 12}, {5, 13},                        // 59, 60, 61
    };

    private Wide() {
    }

    /** An object without properties, with these generators of INT low .. high. */
    static PropertyShrink of(int low, int high) {
        PropertyShrink x = new PropertyShrink();
        x.generator(0, low, high);
        for (int[] pair : PAIRS) {
            x.generator(2, pair[0], pair[1]);
        }
        return x;
    }

    /** The number of a new generator that gives n times, at most 15, what the generator one gives. */
    static int times(PropertyShrink x, int one, int n) {
        if (n == 1) {
            return one;
        }
        int half = times(x, one, n / 2);
        int even = x.generator(2, half, half);
        return n % 2 == 0 ? even : x.generator(2, even, one);
    }
}
