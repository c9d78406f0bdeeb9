/** Promise 3: which PROPERTIES are made, how they are numbered, and what each kind says of NUMBERS. */
public final class PropertyTest {
    private static final int NONE = PropertyShrink.NONE;
    private static final int PASSES = 0;
    private static final int FAILS = 1;
    private static final int THROWN = 2;
    private static final int DISCARDED = 3;
    private static final Due due = new Due();

    public static void main(String[] args) {
        bounds();
        atMostTen();
        kinds();
        sumsAreLong();
        least();
        due.end();
    }

    private static void bounds() {
        PropertyShrink x = new PropertyShrink();
        due.is("kind -1", x.property(-1, 0, 0), NONE);
        due.is("kind 5", x.property(5, 0, 0), NONE);
        due.is("kind far off", x.property(Integer.MIN_VALUE, 0, 0), NONE);
        due.is("least -1", x.property(0, 0, -1), NONE);
        due.is("least 11", x.property(0, 0, 11), NONE);
        due.is("least far off", x.property(0, 0, Integer.MAX_VALUE), NONE);
        for (int kind = 0; kind <= 4; kind++) {
            due.is("kind " + kind, x.property(kind, kind % 2 == 0 ? Integer.MIN_VALUE : Integer.MAX_VALUE, 0), kind);
        }
        due.is("least 10", x.property(0, 0, 10), 5);
    }

    private static void atMostTen() {
        PropertyShrink x = new PropertyShrink();
        x.generator(0, 0, 9);
        for (int i = 0; i < 10; i++) {
            due.is("refused", x.property(9, 0, 0), NONE);
            due.is("property " + i, x.property(1, i, 0), i);
        }
        due.is("the eleventh", x.property(1, 0, 0), NONE);
        due.is("the last works", Due.replayOf(x, 0, 9, 9), FAILS);
        due.is("the first works", Due.replayOf(x, 0, 0, 9), PASSES);
        due.is("there is none behind it", x.replay(0, 10), NONE);
    }

    /** What a new property of that kind says of a list of these numbers, all of them -5 .. 5. */
    private static int says(int kind, int k, int least, int... numbers) {
        PropertyShrink x = new PropertyShrink();
        x.generator(0, -5, 5);
        x.generator(1, 0, 9);
        x.property(kind, k, least);
        for (int number : numbers) {
            x.put(1);
            x.put(number + 5);
        }
        x.put(0);
        return x.replay(1, 0);
    }

    private static void kinds() {
        due.is("sum is k", says(0, 3, 0, 5, -2), PASSES);
        due.is("sum above k", says(0, 2, 0, 5, -2), FAILS);
        due.is("no sum is 0", says(0, -1, 0), FAILS);
        due.is("0 is not above 0", says(0, 0, 0), PASSES);
        due.is("negative sum above k", says(0, -8, 0, -5, -2), FAILS);
        due.is("none is k", says(1, 3, 0, 1, 2, 4), PASSES);
        due.is("first is k", says(1, 3, 0, 3, 2), FAILS);
        due.is("last is k", says(1, -3, 0, 2, -3), FAILS);
        due.is("of none, none is 0", says(1, 0, 0), PASSES);
        due.is("rising", says(2, 9, 0, -5, -5, 0, 1), PASSES);
        due.is("falls at first", says(2, 9, 0, 1, 0, 5), FAILS);
        due.is("falls at last", says(2, 9, 0, 1, 2, 1), FAILS);
        due.is("one alone can't fall", says(2, 9, 0, -5), PASSES);
        due.is("none can't fall", says(2, 9, 0), PASSES);
        due.is("fewer than k", says(3, 3, 0, 1, 1), PASSES);
        due.is("k of them", says(3, 2, 0, 1, 1), FAILS);
        due.is("more than k", says(3, 1, 0, 1, 1), FAILS);
        due.is("none is 0 or more", says(3, 0, 0), FAILS);
        due.is("k below 0", says(3, Integer.MIN_VALUE, 0), FAILS);
        due.is("none throws", says(4, 3, 0, 1, 2, 4), PASSES);
        due.is("last throws", says(4, 4, 0, 1, 2, 4), THROWN);
        due.is("first throws", says(4, 1, 0, 1, 2, 4), THROWN);
    }

    private static void sumsAreLong() {
        due.is("5 above the least int", says(0, Integer.MIN_VALUE, 0, 5), FAILS);
        due.is("-5 above the least int", says(0, Integer.MIN_VALUE, 0, -5), FAILS);
        due.is("5 not above the greatest int", says(0, Integer.MAX_VALUE, 0, 5), PASSES);
    }

    private static void least() {
        for (int kind = 0; kind <= 4; kind++) {
            due.is("fewer, kind " + kind, says(kind, 1, 3, 2, 1), DISCARDED);
        }
        due.is("as many", says(0, 1, 2, 2, 1), FAILS);
        due.is("more", says(1, 1, 1, 2, 1), FAILS);
        due.is("none are as many as 0", says(0, 1, 0), PASSES);
        due.is("none are fewer than 1", says(3, 0, 1), DISCARDED);
        due.is("nine are fewer than 10", says(3, 0, 10, 1, 1, 1, 1, 1, 1, 1, 1, 1), DISCARDED);
    }
}
