/** Promise 2: which GENERATORS are made, how they are numbered, and what each kind draws and gives. */
public final class GeneratorTest {
    private static final int NONE = PropertyShrink.NONE;
    private static final int PASSES = 0;
    private static final int ILL = 4;
    private static final Due due = new Due();

    public static void main(String[] args) {
        bounds();
        parts();
        deep();
        atMostTwenty();
        intGives();
        listGives();
        pairGives();
        oneOfGives();
        keepGives();
        keepThriceIsIll();
        addGives();
        rowsOfSixty();
        due.end();
    }

    private static void bounds() {
        PropertyShrink x = new PropertyShrink();
        int[][] wrong = {
            {-1, 0, 0}, {6, 0, 0}, {Integer.MIN_VALUE, 0, 0}, {Integer.MAX_VALUE, 0, 0},
            {0, -1001, 0}, {0, 0, 1001}, {0, 1, 0}, {0, -1001, -1001}, {0, 1001, 1001},
            {0, Integer.MIN_VALUE, Integer.MAX_VALUE},
            {1, 0, -1}, {1, 0, 10}, {4, 0, -1}, {4, 0, 2}, {5, 0, -1001}, {5, 0, 1001},
        };
        due.is("first", x.generator(0, -1000, 1000), 0);
        for (int[] w : wrong) {
            due.is("generator " + w[0] + " " + w[1] + " " + w[2], x.generator(w[0], w[1], w[2]), NONE);
        }
        int[][] right = {
            {0, 1000, 1000}, {0, -1000, -1000}, {0, 0, 0}, {1, 0, 0}, {1, 0, 9}, {4, 0, 0}, {4, 0, 1},
            {5, 0, -1000}, {5, 0, 1000}, {2, 0, 0}, {3, 0, 0},
        };
        for (int i = 0; i < right.length; i++) {
            int[] r = right[i];
            due.is("generator " + r[0] + " " + r[1] + " " + r[2], x.generator(r[0], r[1], r[2]), i + 1);
        }
    }

    private static void parts() {
        PropertyShrink x = new PropertyShrink();
        x.generator(0, 0, 5);
        x.generator(0, 0, 6);
        for (int kind = 1; kind <= 5; kind++) {
            due.is("kind " + kind + " of -1", x.generator(kind, -1, 0), NONE);
            due.is("kind " + kind + " of itself", x.generator(kind, 2, 0), NONE);
            due.is("kind " + kind + " of a far one", x.generator(kind, Integer.MAX_VALUE, 0), NONE);
        }
        for (int kind = 2; kind <= 3; kind++) {
            due.is("kind " + kind + ", b -1", x.generator(kind, 0, -1), NONE);
            due.is("kind " + kind + ", b itself", x.generator(kind, 0, 2), NONE);
        }
        due.is("pair of both", x.generator(2, 1, 0), 2);
    }

    private static void deep() {
        PropertyShrink x = new PropertyShrink();
        int[] kinds = {1, 2, 3, 4, 5, 4, 5};
        x.generator(0, 0, 1);
        for (int i = 0; i < kinds.length; i++) {
            due.is("deep " + (i + 2), x.generator(kinds[i], i, kinds[i] == 2 || kinds[i] == 3 ? 0 : 1), i + 1);
        }
        for (int kind = 1; kind <= 5; kind++) {
            due.is("nine deep, kind " + kind, x.generator(kind, 7, 0), NONE);
        }
        due.is("nine deep by b, pair", x.generator(2, 0, 7), NONE);
        due.is("nine deep by b, one of", x.generator(3, 0, 7), NONE);
        due.is("eight deep by b", x.generator(2, 0, 6), 8);
        due.is("nine deep by that", x.generator(1, 8, 0), NONE);
        due.is("a flat one goes on", x.generator(0, 0, 0), 9);
    }

    private static void atMostTwenty() {
        PropertyShrink x = new PropertyShrink();
        for (int i = 0; i < 20; i++) {
            due.is("refused", x.generator(0, 1, 0), NONE);
            due.is("generator " + i, x.generator(0, i, i), i);
        }
        due.is("the twenty-first", x.generator(0, 0, 0), NONE);
        due.is("the twenty-first of parts", x.generator(2, 0, 1), NONE);
        x.property(3, 0, 0);
        due.is("the last works", Due.replayOf(x, 19, 0, 0), 1);
        due.numbersAre("the last", x, 19);
        due.is("there is none behind it", x.replay(20, 0), NONE);
    }

    /** A property that always PASSES, as the only one. */
    private static PropertyShrink fresh() {
        PropertyShrink x = new PropertyShrink();
        x.property(0, Integer.MAX_VALUE, 0);
        return x;
    }

    private static void gives(PropertyShrink x, String what, int generator, int[] choices, int... want) {
        due.is(what, Due.replayOf(x, generator, 0, choices), PASSES);
        due.numbersAre(what, x, want);
    }

    private static void ill(PropertyShrink x, String what, int generator, int... choices) {
        due.is(what, Due.replayOf(x, generator, 0, choices), ILL);
        due.numbersAre(what, x);
    }

    private static int[] row(int... choices) {
        return choices;
    }

    private static void intGives() {
        PropertyShrink x = fresh();
        x.generator(0, -7, 5);
        gives(x, "lowest", 0, row(0), -7);
        gives(x, "highest", 0, row(12), 5);
        ill(x, "above", 0, 13);
        ill(x, "far above", 0, Integer.MAX_VALUE);
        ill(x, "no choice", 0);
        x.generator(0, 4, 4);
        gives(x, "one value draws too", 1, row(0), 4);
        ill(x, "one value without a choice", 1);
        ill(x, "one value, choice 1", 1, 1);
    }

    private static void listGives() {
        PropertyShrink x = fresh();
        x.generator(0, 0, 9);
        x.generator(1, 0, 2);
        gives(x, "empty", 1, row(0));
        gives(x, "one", 1, row(1, 5, 0), 5);
        gives(x, "full, without an end", 1, row(1, 5, 1, 6), 5, 6);
        gives(x, "the rest is left out", 1, row(1, 5, 1, 6, 1, 7), 5, 6);
        ill(x, "no end", 1, 1, 5);
        ill(x, "neither 0 nor 1", 1, 2, 5);
        x.generator(1, 0, 0);
        gives(x, "at most none", 2, row());
        x.generator(1, 1, 2);
        gives(x, "lists of lists", 3, row(1, 1, 3, 1, 4, 1, 0), 3, 4);
        x.generator(2, 0, 0);
        x.generator(1, 4, 3);
        gives(x, "items count, not numbers", 5, row(1, 1, 2, 1, 3, 4, 1, 5, 6), 1, 2, 3, 4, 5, 6);
        x.generator(1, 2, 3);
        gives(x, "empty items count", 6, row(1, 1, 1, 9));
    }

    private static void pairGives() {
        PropertyShrink x = fresh();
        x.generator(0, 10, 19);
        x.generator(0, 20, 29);
        x.generator(2, 1, 0);
        gives(x, "a, then b", 2, row(3, 4), 23, 14);
        ill(x, "half", 2, 3);
        x.generator(2, 2, 2);
        gives(x, "pair of pairs", 3, row(1, 2, 3, 4), 21, 12, 23, 14);
    }

    private static void oneOfGives() {
        PropertyShrink x = fresh();
        x.generator(0, 10, 19);
        x.generator(0, 20, 24);
        x.generator(3, 0, 1);
        gives(x, "a", 2, row(0, 9), 19);
        gives(x, "b", 2, row(1, 4), 24);
        ill(x, "above b", 2, 1, 5);
        ill(x, "no third", 2, 2, 0);
        ill(x, "no choice", 2);
        ill(x, "no choice behind", 2, 1);
    }

    private static void keepGives() {
        PropertyShrink x = fresh();
        x.generator(0, -5, 5);
        x.generator(4, 0, 0);
        x.generator(4, 0, 1);
        gives(x, "even at once", 1, row(5, 1), 0);
        gives(x, "negative even", 1, row(3), -2);
        gives(x, "negative odd", 2, row(4), -1);
        gives(x, "even at last", 1, row(0, 2, 1), -4);
        gives(x, "odd at last", 2, row(1, 3, 10), 5);
        ill(x, "no choice for more", 1, 0, 2);
        x.generator(2, 0, 0);
        x.generator(4, 3, 1);
        x.generator(2, 0, 4);
        gives(x, "the sum of a's own numbers", 5, row(6, 5, 6), 1, 0, 1);
        gives(x, "what was before stays", 5, row(6, 6, 6, 5, 6), 1, 0, 1);
        x.generator(1, 0, 0);
        x.generator(4, 6, 0);
        gives(x, "no numbers are even", 7, row());
        x.generator(4, 6, 1);
        ill(x, "no numbers are never odd", 8);
    }

    private static void keepThriceIsIll() {
        PropertyShrink x = fresh();
        x.generator(0, 0, 9);
        x.generator(4, 0, 0);
        ill(x, "three odd ones", 1, 1, 3, 5, 2);
        x.generator(1, 1, 9);
        ill(x, "in a list too", 2, 1, 2, 1, 1, 1, 1, 0);
        gives(x, "each item anew", 2, row(1, 1, 1, 2, 1, 3, 3, 4, 0), 2, 4);
        x.generator(5, 1, 1);
        x.generator(4, 3, 1);
        ill(x, "inside another keep", 4, 1, 1, 1, 2, 2);
    }

    private static void addGives() {
        PropertyShrink x = fresh();
        x.generator(0, -1000, 1000);
        x.generator(5, 0, 1000);
        x.generator(2, 0, 1);
        gives(x, "only a's own", 2, row(0, 2000), -1000, 2000);
        x.generator(5, 2, -3);
        gives(x, "each", 3, row(1000, 1000), -3, 997);
        x.generator(5, 1, 1000);
        x.generator(5, 4, 1000);
        gives(x, "thrice", 5, row(2000), 4000);
        x.generator(4, 3, 1);
        gives(x, "keep looks at what is added", 6, row(1000, 1000, 1000, 1001), -3, 998);
    }

    private static void rowsOfSixty() {
        PropertyShrink x = fresh();
        x.generator(0, 0, 0);
        x.generator(2, 0, 0);
        x.generator(2, 1, 1);
        x.generator(2, 2, 2);
        x.generator(2, 3, 3);
        x.generator(2, 4, 4);
        x.generator(2, 4, 3);
        x.generator(2, 6, 2);
        x.generator(2, 5, 7);
        x.generator(2, 2, 0);
        x.generator(2, 6, 9);
        x.generator(2, 5, 10);
        int[] sixty = new int[60];
        int[] zeros = new int[60];
        gives(x, "sixty numbers of sixty choices", 8, sixty, zeros);
        ill(x, "sixty-one", 11, sixty);
    }
}
