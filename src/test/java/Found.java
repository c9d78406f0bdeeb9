import java.util.Arrays;
import java.util.function.Supplier;

/** Objects whose latest check found just the row that a test wants to begin with. */
final class Found {
    private static final long SEEDS = 2_000_000;

    private Found() {
    }

    /** A new object by the maker, whose check of the generator and property 0 found the row. */
    static PropertyShrink row(Supplier<PropertyShrink> maker, int generator, int... row) {
        for (long seed = 0; seed < SEEDS; seed++) {
            PropertyShrink x = maker.get();
            if (x.check(generator, 0, seed, 60) == -1 && Arrays.equals(rowOf(x), row)) {
                return x;
            }
        }
        throw new IllegalStateException("no seed finds " + Arrays.toString(row));
    }

    static int[] rowOf(PropertyShrink x) {
        int[] row = new int[x.size(0)];
        for (int i = 0; i < row.length; i++) {
            row[i] = x.choice(i);
        }
        return row;
    }
}
