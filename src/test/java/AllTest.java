/** Promises 12 and 13: all and sum. */
public final class AllTest {
    private static final Due due = new Due();

    public static void main(String[] args) {
        wrongOnes();
        rising();
        upToMost();
        illOnesArePassed();
        atMostTwoThousand();
        sixtyChoices();
        restStays();
        due.end();
    }

    /** SUM of these rows of numbers. */
    private static long sumOf(int[]... rows) {
        long sum = 0;
        for (int[] row : rows) {
            for (int number : row) {
                sum = sum * 31 + number;
            }
            sum = sum * 31 + 7;
        }
        return sum;
    }

    private static int[] row(int... numbers) {
        return numbers;
    }

    private static void wrongOnes() {
        PropertyShrink x = new PropertyShrink();
        x.generator(0, 5, 6);
        due.is("sum before", x.sum(), 0);
        due.is("all(0, 1)", x.all(0, 1), 1);
        due.is("sum", x.sum(), 5 * 31 + 7);
        due.is("most 0", x.all(0, 0), -1);
        due.is("most -1", x.all(0, -1), -1);
        due.is("most 201", x.all(0, 201), -1);
        due.is("most far off", x.all(0, Integer.MAX_VALUE), -1);
        due.is("generator -1", x.all(-1, 1), -1);
        due.is("generator 1", x.all(1, 1), -1);
        due.is("sum stays", x.sum(), 5 * 31 + 7);
        due.is("most 200", x.all(0, 200), 2);
        due.is("sum begins anew", x.sum(), sumOf(row(5), row(6)));
    }

    private static void rising() {
        PropertyShrink x = new PropertyShrink();
        x.generator(0, -1, 1);
        x.generator(1, 0, 2);
        due.is("list", x.all(1, 200), 1 + 3 * (1 + 3));
        due.is("list's sum", x.sum(), sumOf(row(),
            row(-1), row(-1, -1), row(-1, 0), row(-1, 1),
            row(0), row(0, -1), row(0, 0), row(0, 1),
            row(1), row(1, -1), row(1, 0), row(1, 1)));
        x.generator(0, 8, 9);
        x.generator(3, 2, 0);
        due.is("one of", x.all(3, 200), 5);
        due.is("one of's sum", x.sum(), sumOf(row(8), row(9), row(-1), row(0), row(1)));
        x.generator(2, 0, 2);
        x.generator(5, 4, -10);
        due.is("pair", x.all(5, 200), 6);
        due.is("pair's sum", x.sum(), sumOf(row(-11, -2), row(-11, -1), row(-10, -2), row(-10, -1),
            row(-9, -2), row(-9, -1)));
        x.generator(1, 0, 0);
        due.is("nothing drawn", x.all(6, 200), 1);
        due.is("nothing drawn, sum", x.sum(), 7);
    }

    private static void upToMost() {
        PropertyShrink x = new PropertyShrink();
        x.generator(0, 0, 1000);
        due.is("most 200", x.all(0, 200), 200);
        due.is("most 3", x.all(0, 3), 3);
        due.is("most 3, sum", x.sum(), sumOf(row(0), row(1), row(2)));
        x.generator(0, 0, 199);
        due.is("just so many", x.all(1, 200), 200);
        due.is("one fewer", x.all(1, 199), 199);
        x.generator(0, 0, 198);
        due.is("fewer than most", x.all(2, 200), 199);
    }

    private static void illOnesArePassed() {
        PropertyShrink x = new PropertyShrink();
        x.generator(0, 0, 2);
        x.generator(4, 0, 1);
        // 1; or 0 or 2 and then again: once in each round, thrice is ill.
        due.is("odd", x.all(1, 200), 1 + 2 + 4);
        due.is("odd's sum", x.sum(), sumOf(row(1), row(1), row(1), row(1), row(1), row(1), row(1)));
        x.generator(0, 1, 2);
        x.generator(4, 2, 0);
        x.generator(2, 3, 2);
        // 1 1 2, 1 2, 2 for the kept one, in this order, each with 1 and 2 behind.
        due.is("even, then", x.all(4, 200), 6);
        due.is("even, then: sum", x.sum(), sumOf(row(2, 1), row(2, 2), row(2, 1), row(2, 2), row(2, 1), row(2, 2)));
        x.generator(1, 0, 0);
        x.generator(4, 5, 1);
        due.is("always ill", x.all(6, 200), 0);
        due.is("always ill, sum", x.sum(), 0);
    }

    private static void atMostTwoThousand() {
        PropertyShrink x = new PropertyShrink();
        x.generator(0, 0, 12);
        x.generator(5, 0, 1);
        x.generator(0, 0, 0);
        x.generator(2, 0, 2);
        x.generator(4, 3, 1);
        // Rounds with an even number are passed: 7 * 7 * 7 ill rows, and 6 + 7 * 6 + 49 * 6 that are well.
        due.is("343 + 342 are looked at", x.all(4, 200), 200);
        x.generator(0, 0, 1000);
        x.generator(4, 5, 1);
        // Behind 0, 0: of the third round's 1001 rows 500 are odd; the first 200 are reached.
        due.is("one in two is ill", x.all(6, 200), 200);
        theTwoThousandthCounts();
    }

    /** ONE OF an ill one of i rows and then one that counts: is the row behind them still looked at? */
    private static void theTwoThousandthCounts() {
        for (int illRows = 1998; illRows <= 2001; illRows++) {
            PropertyShrink x = new PropertyShrink();
            x.generator(0, 0, 999);
            x.generator(0, 0, illRows - 1001);
            x.generator(3, 0, 1);
            x.generator(0, 0, 0);
            x.generator(1, 3, 0);
            x.generator(4, 4, 1);
            x.generator(2, 2, 5);
            x.generator(0, 4, 5);
            x.generator(3, 6, 7);
            int want = Math.max(0, Math.min(2, 2000 - illRows));
            due.is(illRows + " ill rows before", x.all(8, 200), want);
            due.is(illRows + " ill rows before, sum", x.sum(),
                want == 0 ? 0 : want == 1 ? sumOf(row(4)) : sumOf(row(4), row(5)));
        }
    }

    /** Pairs of pairs: generators 0 .. 5 draw 1, 2, 4, 8, 16, 32 choices, all 0. */
    private static PropertyShrink zeros() {
        PropertyShrink x = new PropertyShrink();
        x.generator(0, 0, 0);
        for (int i = 0; i < 5; i++) {
            x.generator(2, i, i);
        }
        return x;
    }

    private static void sixtyChoices() {
        PropertyShrink x = zeros();
        x.generator(2, 4, 3);
        x.generator(2, 6, 2);
        due.is("32 and 28", x.generator(2, 5, 7), 8);
        due.is("sixty", x.all(8, 200), 1);
        due.is("sixty, sum", x.sum(), sumOf(new int[60]));
        x.generator(2, 2, 0);
        x.generator(2, 6, 9);
        due.is("32 and 29", x.generator(2, 5, 10), 11);
        due.is("sixty-one", x.all(11, 200), 0);
        due.is("sixty-one, sum", x.sum(), 0);
        x.generator(1, 0, 9);
        x.generator(2, 6, 12);
        due.is("32, 24 and a list", x.generator(2, 5, 13), 14);
        // No item takes 57 choices, one 59; two take 60, and the draw behind them is one too many.
        due.is("32, 24 and a list: all", x.all(14, 200), 2);
        due.is("32, 24 and a list: sum", x.sum(), sumOf(new int[56], new int[57]));
        rowsTooLongAreLookedAtOnce();
    }

    /** A thousand rows need a sixty-first choice that could be 0 or 1; two behind them are well. */
    private static void rowsTooLongAreLookedAtOnce() {
        PropertyShrink x = zeros();
        x.generator(0, 0, 999);
        x.generator(0, 0, 1);
        x.generator(2, 6, 0);
        x.generator(2, 0, 7);
        x.generator(2, 8, 9);
        x.generator(2, 3, 10);
        x.generator(2, 4, 11);
        x.generator(2, 5, 12);
        x.generator(0, 4, 5);
        due.is("one of", x.generator(3, 13, 14), 15);
        due.is("too long ones before", x.all(15, 200), 2);
        due.is("too long ones before, sum", x.sum(), sumOf(row(4), row(5)));
    }

    private static void restStays() {
        PropertyShrink x = new PropertyShrink();
        x.generator(0, 3, 3);
        x.generator(0, 0, 9);
        x.property(3, 0, 0);
        x.check(0, 0, 0, 1);
        x.shrink(400);
        x.put(5);
        due.is("all", x.all(1, 200), 10);
        due.rowIs("behind all", x, 0);
        due.numbersAre("behind all", x, 3);
        due.is("least", x.least(), true);
        due.is("kept", x.size(2), 1);
        due.is("what was put", x.replay(1, 0), 1);
        due.numbersAre("what was put", x, 5);
    }
}
