import java.util.Arrays;
import java.util.function.Supplier;

/** Terms: each of their sentences that names an edge has a method of its own, in the document's order. */
public final class TermsEdgeTest {
    private static final int NONE = PropertyShrink.NONE;
    private static final int FOUND = -1;
    private static final int TOO_FEW = -2;

    private static final int INT = 0;
    private static final int LIST = 1;
    private static final int PAIR = 2;
    private static final int ONE_OF = 3;
    private static final int KEEP = 4;
    private static final int ADD = 5;

    private static final int PASSES = 0;
    private static final int FAILS = 1;
    private static final int THROWN = 2;
    private static final int DISCARDED = 3;
    private static final int ILL = 4;

    private static final Due due = new Due();

    public static void main(String[] args) {
        generators();
        replayed();
        drawn();
        properties();
        checking();
        steps();
        shrinking();
        due.end();
    }

    private static void generators() {
        atMostTwenty();
        numberedFromZero();
        madeOfEarlierOnes();
        atMostEightDeep();
        oneMoreThanTheDeepest();
        intFromAToB();
        intOfOneValue();
        listOfAtMostB();
        listOfAtMostNone();
        listEndsOrGoesOn();
        oneOfTwo();
        keepsEvenOrOdd();
        theThirdIsIll();
        addsToEach();
    }

    private static void replayed() {
        rowOfSixty();
        noChoiceLeft();
        choiceAboveM();
        leftOut();
    }

    private static void drawn() {
        statesWrap();
        listAndOneOfModuloTwo();
        intBySize();
        sixtyFirstDraw();
        nothingBehindTheSixtyFirst();
        nothingBehindTheThirdOfKeep();
    }

    private static void properties() {
        atMostTen();
        fewerThanLeast();
        sumAboveK();
        oneIsK();
        lessThanTheOneBefore();
        kOrMore();
        thrownIfOneIsK();
    }

    private static void checking() {
        keptOneIsFoundFirst();
        keptOneOfThisPairOnly();
        illIsAWaste();
        discardedIsAWaste();
        moreWastesThanRuns();
        theFirstOneIsFound();
        soManyRunsPass();
    }

    private static void steps() {
        dropsThatFit();
        dropsInOrder();
        lowersWhatIsAboveZero();
        swapsOnlyAGreaterOne();
        swapsInOrder();
        sameVerdictGoes();
    }

    private static void shrinking() {
        asManyAsTold();
        leastIfOneMoreCouldBeTried();
        emptyRowIsLeast();
        beginsAnew();
        withoutWhatIsLeftOut();
    }

    /** An object with one property, number 0, that always PASSES. */
    private static PropertyShrink passing() {
        PropertyShrink x = new PropertyShrink();
        x.property(0, Integer.MAX_VALUE, 0);
        return x;
    }

    private static int[] row(int... choices) {
        return choices;
    }

    private static void gives(PropertyShrink x, int generator, int[] choices, int... numbers) {
        String call = "generator " + generator + " by " + Arrays.toString(choices);
        due.is(call, Due.replayOf(x, generator, 0, choices), PASSES);
        due.numbersAre(call, x, numbers);
    }

    private static void isIll(PropertyShrink x, int generator, int... choices) {
        String call = "generator " + generator + " by " + Arrays.toString(choices);
        due.is(call, Due.replayOf(x, generator, 0, choices), ILL);
        due.numbersAre(call, x);
    }

    private static void atMostTwenty() {
        due.by("GENERATORS, at most 20");
        PropertyShrink x = passing();
        for (int i = 0; i < 19; i++) {
            x.generator(INT, i, i);
        }
        due.is("the twentieth", x.generator(INT, 19, 19), 19);
        for (int kind = INT; kind <= ADD; kind++) {
            due.is("the twenty-first, kind " + kind, x.generator(kind, 0, 0), NONE);
        }
        gives(x, 19, row(0), 19);
        due.is("replay(20, 0)", x.replay(20, 0), NONE);
    }

    private static void numberedFromZero() {
        due.by("numbered from 0");
        PropertyShrink x = new PropertyShrink();
        due.is("none such", x.all(0, 1), -1);
        due.is("the first", x.generator(INT, 3, 5), 0);
        due.is("refused", x.generator(INT, 5, 3), NONE);
        due.is("the second", x.generator(INT, 1, 1), 1);
        due.is("all(0, 9)", x.all(0, 9), 3);
        due.is("all(1, 9)", x.all(1, 9), 1);
    }

    private static void madeOfEarlierOnes() {
        due.by("made of earlier ones");
        PropertyShrink x = new PropertyShrink();
        for (int kind = LIST; kind <= ADD; kind++) {
            due.is("of none at all, kind " + kind, x.generator(kind, 0, 0), NONE);
        }
        x.generator(INT, 0, 9);
        for (int kind = LIST; kind <= ADD; kind++) {
            due.is("of -1, kind " + kind, x.generator(kind, -1, 0), NONE);
            due.is("of itself, kind " + kind, x.generator(kind, 1, 0), NONE);
        }
        for (int kind = PAIR; kind <= ONE_OF; kind++) {
            due.is("b is -1, kind " + kind, x.generator(kind, 0, -1), NONE);
            due.is("b is itself, kind " + kind, x.generator(kind, 0, 1), NONE);
        }
        due.is("b of LIST is no generator", x.generator(LIST, 0, 9), 1);
        due.is("b of ADD is no generator", x.generator(ADD, 0, -1000), 2);
    }

    /** An object with generators 0 .. deep - 1, each one deeper than the one before. */
    private static PropertyShrink deep(int deep) {
        PropertyShrink x = passing();
        x.generator(INT, 0, 1);
        for (int i = 1; i < deep; i++) {
            x.generator(ADD, i - 1, 1);
        }
        return x;
    }

    private static void atMostEightDeep() {
        due.by("at most 8 DEEP");
        for (int kind = LIST; kind <= ADD; kind++) {
            PropertyShrink x = deep(7);
            due.is("eight deep, kind " + kind, x.generator(kind, 6, 0), 7);
            due.is("nine deep, kind " + kind, x.generator(kind, 7, 0), NONE);
            due.is("one deep is free, kind " + kind, x.generator(INT, 0, 0), 8);
        }
        PropertyShrink x = deep(8);
        gives(x, 7, row(1), 8);
    }

    private static void oneMoreThanTheDeepest() {
        due.by("one more than the deepest that it is made of");
        for (int kind = PAIR; kind <= ONE_OF; kind++) {
            PropertyShrink x = deep(7);
            due.is("b is seven deep, kind " + kind, x.generator(kind, 0, 6), 7);
            due.is("so it is eight deep, kind " + kind, x.generator(LIST, 7, 1), NONE);
            due.is("a is seven deep, kind " + kind, x.generator(kind, 6, 0), 8);
            due.is("so it is eight deep, kind " + kind, x.generator(LIST, 8, 1), NONE);
            due.is("b is eight deep, kind " + kind, x.generator(kind, 0, 7), NONE);
            due.is("both are seven deep, kind " + kind, x.generator(kind, 6, 6), 9);
            due.is("both are one deep, kind " + kind, x.generator(kind, 0, 0), 10);
            due.is("so it is two deep, kind " + kind, x.generator(kind, 10, 5), 11);
        }
    }

    private static void intFromAToB() {
        due.by("INT a .. b: DRAWS up to b - a: a and the choice");
        PropertyShrink x = passing();
        x.generator(INT, -1000, 1000);
        gives(x, 0, row(0), -1000);
        gives(x, 0, row(2000), 1000);
        isIll(x, 0, 2001);
        x.generator(INT, -3, -2);
        gives(x, 1, row(1), -2);
        isIll(x, 1, 2);
    }

    private static void intOfOneValue() {
        due.by("INT a .. b, a is b: DRAWS up to 0");
        PropertyShrink x = passing();
        x.generator(INT, 1000, 1000);
        gives(x, 0, row(0), 1000);
        isIll(x, 0);
        isIll(x, 0, 1);
        due.is("all", x.all(0, 200), 1);
    }

    private static void listOfAtMostB() {
        due.by("LIST of a, at most b (0 .. 9): as long as there are fewer than b: DRAWS up to 1");
        for (int b = 1; b <= 9; b++) {
            PropertyShrink x = passing();
            x.generator(INT, 5, 5);
            x.generator(LIST, 0, b);
            int[] full = new int[2 * b];
            int[] numbers = new int[b];
            for (int i = 0; i < b; i++) {
                full[2 * i] = 1;
                numbers[i] = 5;
            }
            gives(x, 1, full, numbers);
            isIll(x, 1, Arrays.copyOf(full, 2 * b - 2));
            int[] ended = Arrays.copyOf(full, 2 * b - 1);
            ended[2 * b - 2] = 0;
            gives(x, 1, ended, Arrays.copyOf(numbers, b - 1));
        }
    }

    private static void listOfAtMostNone() {
        due.by("LIST of a, at most 0: DRAWS nothing");
        PropertyShrink x = passing();
        x.generator(INT, 5, 5);
        x.generator(LIST, 0, 0);
        gives(x, 1, row());
        x.generator(PAIR, 1, 0);
        gives(x, 2, row(0), 5);
        due.is("all", x.all(1, 200), 1);
    }

    private static void listEndsOrGoesOn() {
        due.by("0: it ends; 1: a once more");
        PropertyShrink x = passing();
        x.generator(INT, 0, 9);
        x.generator(LIST, 0, 9);
        gives(x, 1, row(0));
        gives(x, 1, row(0, 1, 7, 0));
        gives(x, 1, row(1, 7, 0), 7);
        isIll(x, 1, 2, 7, 0);
        isIll(x, 1, 1, 7, 2);
    }

    private static void oneOfTwo() {
        due.by("ONE OF: DRAWS up to 1: 0: a, 1: b");
        PropertyShrink x = passing();
        x.generator(INT, 10, 11);
        x.generator(INT, 20, 21);
        x.generator(ONE_OF, 0, 1);
        gives(x, 2, row(0, 1), 11);
        gives(x, 2, row(1, 0), 20);
        isIll(x, 2, 2, 0);
        isIll(x, 2, 1);
        isIll(x, 2);
    }

    private static void keepsEvenOrOdd() {
        due.by("KEEP of a: a's NUMBERS, if their sum is even (b is 0) or odd (b is 1)");
        PropertyShrink x = passing();
        x.generator(INT, -3, 3);
        x.generator(KEEP, 0, 0);
        x.generator(KEEP, 0, 1);
        x.generator(LIST, 0, 0);
        x.generator(KEEP, 3, 0);
        for (int number = -3; number <= 3; number++) {
            boolean even = number == -2 || number == 0 || number == 2;
            gives(x, even ? 1 : 2, row(number + 3), number);
            isIll(x, even ? 2 : 1, number + 3);
        }
        gives(x, 4, row());
    }

    private static void theThirdIsIll() {
        due.by("else a once more, instead; the third that isn't so is ILL");
        PropertyShrink x = passing();
        x.generator(INT, 0, 9);
        x.generator(KEEP, 0, 0);
        gives(x, 1, row(1, 4), 4);
        gives(x, 1, row(1, 3, 6), 6);
        isIll(x, 1, 1, 3, 5);
        isIll(x, 1, 1, 3, 5, 8);
        x.generator(LIST, 0, 0);
        x.generator(KEEP, 2, 1);
        isIll(x, 3);
        x.generator(PAIR, 1, 1);
        gives(x, 4, row(1, 3, 6, 5, 7, 8), 6, 8);
        isIll(x, 4, 1, 3, 6, 5, 7, 9);
    }

    private static void addsToEach() {
        due.by("ADD of a: a's NUMBERS, b more each");
        PropertyShrink x = passing();
        x.generator(INT, -1000, 1000);
        for (int i = 0; i < 7; i++) {
            x.generator(ADD, i, 1000);
        }
        gives(x, 7, row(2000), 8000);
        PropertyShrink y = passing();
        y.generator(INT, -1000, 1000);
        for (int i = 0; i < 7; i++) {
            y.generator(ADD, i, -1000);
        }
        gives(y, 7, row(0), -8000);
        y.generator(PAIR, 0, 0);
        y.generator(ADD, 8, 0);
        gives(y, 9, row(1000, 1001), 0, 1);
        y.generator(ADD, 8, 1);
        y.generator(PAIR, 0, 10);
        gives(y, 11, row(1000, 1000, 1001), 0, 1, 2);
    }

    private static void rowOfSixty() {
        due.by("A ROW has at most 60 CHOICES");
        PropertyShrink x = Wide.of(3, 3);
        x.property(0, 180, 0);
        int[] threes = new int[60];
        Arrays.fill(threes, 3);
        gives(x, Wide.SIXTY, new int[60], threes);
        gives(x, Wide.FIFTY_NINE, new int[59], Arrays.copyOf(threes, 59));
        isIll(x, Wide.SIXTY_ONE, new int[60]);
        x.property(0, 179, 0);
        due.is("check of sixty", x.check(Wide.SIXTY, 1, 0, 1), FOUND);
        due.rowIs("check of sixty", x, new int[60]);
        due.numbersAre("check of sixty", x, threes);
        due.is("check of sixty-one", x.check(Wide.SIXTY_ONE, 1, 0, 1), TOO_FEW);
    }

    private static void noChoiceLeft() {
        due.by("ILL: there is none");
        PropertyShrink x = passing();
        x.generator(INT, 0, 9);
        x.generator(PAIR, 0, 0);
        isIll(x, 0);
        isIll(x, 1);
        isIll(x, 1, 4);
        gives(x, 1, row(4, 5), 4, 5);
    }

    private static void choiceAboveM() {
        due.by("ILL: it is above m");
        PropertyShrink x = passing();
        x.generator(INT, -4, 5);
        x.generator(PAIR, 0, 0);
        gives(x, 0, row(9), 5);
        isIll(x, 0, 10);
        isIll(x, 0, Integer.MAX_VALUE);
        isIll(x, 1, 10, 0);
        isIll(x, 1, 0, 10);
    }

    private static void leftOut() {
        due.by("What isn't taken is left out of the ROW");
        PropertyShrink x = passing();
        x.generator(INT, 0, 9);
        gives(x, 0, row(4, 5, 6), 4);
        gives(x, 0, row(4, Integer.MAX_VALUE), 4);
        int[] sixty = new int[60];
        sixty[0] = 8;
        gives(x, 0, sixty, 8);
    }

    private static void statesWrap() {
        due.by("x = x * 6364136223846793005 + 1442695040888963407 (modulo 2 to the 64); without sign");
        long[] seeds = {0, 1, -1, Long.MAX_VALUE, Long.MIN_VALUE, Long.MAX_VALUE - 1, Long.MIN_VALUE + 1,
            1L << 33, -(1L << 33), Integer.MIN_VALUE};
        for (long seed : seeds) {
            PropertyShrink x = Wide.of(0, 1);
            x.property(3, 0, 0);
            Seeded s = new Seeded(seed);
            int[] want = new int[60];
            for (int i = 0; i < 60; i++) {
                want[i] = s.upTo(1);
            }
            due.is("check, seed " + seed, x.check(Wide.SIXTY, 0, seed, 1), FOUND);
            due.rowIs("seed " + seed, x, want);
        }
    }

    private static void listAndOneOfModuloTwo() {
        due.by("the CHOICE is x shifted right by 33 modulo m + 1");
        for (long seed = 0; seed < 40; seed++) {
            PropertyShrink x = new PropertyShrink();
            x.generator(INT, 0, 0);
            x.generator(LIST, 0, 1);
            x.generator(ONE_OF, 1, 0);
            x.property(3, 0, 0);
            Seeded s = new Seeded(seed);
            int side = s.upTo(1);
            int more = side == 0 ? s.upTo(1) : 0;
            due.is("seed " + seed, x.check(2, 0, seed, 1), FOUND);
            due.rowIs("seed " + seed, x, side == 0 && more == 1 ? row(0, 1, 0) : row(side, 0));
        }
    }

    private static void intBySize() {
        due.by("for INT, if m is above z + 1, modulo z + 2");
        for (int high : new int[] {1, 5, 30, 60, 61, 1000}) {
            for (int k = 0; k < 60; k++) {
                int runs = Math.max(1, k);
                long seed = 31L * k + high;
                PropertyShrink x = new PropertyShrink();
                x.generator(INT, 0, high);
                x.property(0, k, 0);
                if (k > 0) {
                    due.is("no choice above " + k + " in " + k + " tries", x.check(0, 0, seed, runs), runs);
                }
                int want = k + 1;
                Seeded s = new Seeded(seed);
                int found = -1;
                int z = 0;
                while (z <= k && found < 0) {
                    int choice = s.sized(high, z);
                    found = choice >= want ? choice : -1;
                    z++;
                }
                String call = "up to " + high + ", above " + k;
                due.is(call, x.check(0, 0, seed, k + 1), found < 0 ? k + 1 : FOUND);
                due.is(call, x.choice(0), found);
            }
        }
        greatestChoiceOfASize();
    }

    /** In a TRY of SIZE z the greatest choice is z + 1, and some seed draws it. */
    private static void greatestChoiceOfASize() {
        for (int k = 0; k < 60; k += 59) {
            boolean drawn = false;
            for (long seed = 0; seed < 500; seed++) {
                PropertyShrink x = new PropertyShrink();
                x.generator(INT, 0, 1000);
                x.property(0, k, 0);
                drawn = drawn || x.check(0, 0, seed, k + 1) == FOUND;
                due.is("not above " + (k + 1), x.choice(0) <= k + 1, true);
            }
            due.is("some seed draws " + (k + 1), drawn, true);
        }
    }

    /** What a TRY of a generator does first: which of two sides, of which the first one is ILL. */
    private interface Side {
        void drawn(Seeded s, int z);
    }

    /** ONE OF an ILL generator and INT 0 .. 20, number 0: check beside the states that are due. */
    private static void illSide(Supplier<PropertyShrink> maker, int generator, Side ill) {
        int bothSides = 0;
        for (long seed = 0; seed < 60; seed++) {
            PropertyShrink x = maker.get();
            x.property(1, 3, 0);
            Seeded s = new Seeded(seed);
            int wastes = 0;
            int passed = 0;
            int answer = 0;
            for (int z = 0; answer == 0; z++) {
                if (s.upTo(1) == 0) {
                    wastes++;
                    ill.drawn(s, z);
                } else if (s.sized(20, z) == 3) {
                    answer = FOUND;
                } else {
                    passed++;
                }
                answer = answer != 0 ? answer : wastes > 20 ? TOO_FEW : passed == 20 ? 20 : 0;
            }
            bothSides += wastes > 0 && passed > 0 ? 1 : 0;
            due.is("seed " + seed, x.check(generator, 0, seed, 20), answer);
            due.is("seed " + seed + ", wastes", x.size(3), wastes);
        }
        due.is("some seeds draw both sides", bothSides > 10, true);
    }

    private static void sixtyFirstDraw() {
        due.by("ILL: more than 60 CHOICES; that sixty-first has changed x");
        Supplier<PropertyShrink> maker = () -> {
            PropertyShrink x = Wide.of(0, 20);
            x.generator(ONE_OF, Wide.SIXTY, Wide.ONE);
            return x;
        };
        illSide(maker, Wide.COUNT, (s, z) -> {
            for (int draw = 2; draw <= 61; draw++) {
                s.sized(20, z);
            }
        });
        PropertyShrink x = Wide.of(0, 20);
        x.generator(ONE_OF, Wide.FIFTY_NINE, Wide.FIFTY_NINE);
        x.property(3, 59, 0);
        due.is("sixty draws are well", x.check(Wide.COUNT, 0, 5, 1), FOUND);
        due.is("sixty draws", x.size(0), 60);
        due.is("of fifty-nine numbers", x.size(1), 59);
    }

    private static void nothingBehindTheSixtyFirst() {
        due.by("behind what makes it ILL, the sixty-first DRAW, nothing is DRAWN any more");
        Supplier<PropertyShrink> maker = () -> {
            PropertyShrink x = Wide.of(0, 20);
            x.generator(ONE_OF, Wide.SIXTY_ONE, Wide.ONE);
            return x;
        };
        illSide(maker, Wide.COUNT, (s, z) -> {
            for (int draw = 2; draw <= 61; draw++) {
                s.sized(20, z);
            }
        });
    }

    private static void nothingBehindTheThirdOfKeep() {
        due.by("behind what makes it ILL, the third of KEEP, too, nothing is DRAWN any more");
        Supplier<PropertyShrink> maker = () -> {
            PropertyShrink x = new PropertyShrink();
            x.generator(INT, 0, 20);
            x.generator(INT, 0, 0);
            x.generator(KEEP, 1, 1);
            x.generator(PAIR, 2, 0);
            x.generator(ADD, 3, 1);
            x.generator(LIST, 0, 9);
            x.generator(PAIR, 4, 5);
            x.generator(ONE_OF, 6, 0);
            return x;
        };
        illSide(maker, 7, (s, z) -> {
            for (int draw = 2; draw <= 4; draw++) {
                s.sized(0, z);
            }
        });
    }

    private static void atMostTen() {
        due.by("PROPERTIES, at most 10, numbered from 0");
        PropertyShrink x = new PropertyShrink();
        x.generator(INT, 0, 9);
        for (int i = 0; i < 10; i++) {
            due.is("property " + i, x.property(1, i, 0), i);
        }
        for (int kind = 0; kind <= 4; kind++) {
            due.is("the eleventh, kind " + kind, x.property(kind, 0, 0), NONE);
        }
        due.is("the first", Due.replayOf(x, 0, 0, 0), FAILS);
        due.is("the tenth", Due.replayOf(x, 0, 9, 9), FAILS);
        due.is("replay(0, 10)", x.replay(0, 10), NONE);
    }

    /** What a new property says of a list of these numbers, all of them -5 .. 5. */
    private static int says(int kind, int k, int least, int... numbers) {
        PropertyShrink x = new PropertyShrink();
        x.generator(INT, -5, 5);
        x.generator(LIST, 0, 9);
        x.property(kind, k, least);
        int[] choices = new int[2 * numbers.length + 1];
        for (int i = 0; i < numbers.length; i++) {
            choices[2 * i] = 1;
            choices[2 * i + 1] = numbers[i] + 5;
        }
        return Due.replayOf(x, 1, 0, choices);
    }

    private static void fewerThanLeast() {
        due.by("FEW: fewer than LEAST of them: DISCARDED");
        for (int kind = 0; kind <= 4; kind++) {
            int bad = kind == 4 ? THROWN : FAILS;
            due.is("two, least 3, kind " + kind, says(kind, 1, 3, 2, 1), DISCARDED);
            due.is("two, least 2, kind " + kind, says(kind, 1, 2, 2, 1), bad);
            due.is("two, least 1, kind " + kind, says(kind, 1, 1, 2, 1), bad);
        }
        due.is("none, least 0", says(3, 0, 0), FAILS);
        due.is("none, least 1", says(3, 0, 1), DISCARDED);
        due.is("nine, least 10", says(3, 0, 10, 1, 1, 1, 1, 1, 1, 1, 1, 1), DISCARDED);
        PropertyShrink x = Wide.of(0, 0);
        x.property(3, 0, 10);
        int ten = x.generator(PAIR, 3, 1);
        due.is("ten, least 10", Due.replayOf(x, ten, 0, new int[10]), FAILS);
    }

    private static void sumAboveK() {
        due.by("0: if their sum is above k (Sums are in 64 bits)");
        due.is("sum is k", says(0, 3, 0, 5, -2), PASSES);
        due.is("sum is k + 1", says(0, 2, 0, 5, -2), FAILS);
        due.is("of none: not above 0", says(0, 0, 0), PASSES);
        due.is("of none: above -1", says(0, -1, 0), FAILS);
        due.is("-5 above the least int", says(0, Integer.MIN_VALUE, 0, -5), FAILS);
        due.is("5 above the least int", says(0, Integer.MIN_VALUE, 0, 5), FAILS);
        due.is("-5 not above the greatest int", says(0, Integer.MAX_VALUE, 0, -5), PASSES);
        due.is("5 not above the greatest int", says(0, Integer.MAX_VALUE, 0, 5), PASSES);
    }

    private static void oneIsK() {
        due.by("1: if one is k");
        due.is("of none", says(1, 0, 0), PASSES);
        due.is("the first", says(1, 3, 0, 3, 4, 5), FAILS);
        due.is("the last", says(1, 5, 0, 3, 4, 5), FAILS);
        due.is("neither", says(1, 2, 0, 3, 4, 5), PASSES);
        due.is("only the sum", says(1, 3, 0, 1, 2), PASSES);
        due.is("the least int", says(1, Integer.MIN_VALUE, 0, 0), PASSES);
    }

    private static void lessThanTheOneBefore() {
        due.by("2: if one is less than the one before");
        due.is("of none", says(2, 0, 0), PASSES);
        due.is("of one", says(2, 0, 0, -5), PASSES);
        due.is("alike", says(2, 0, 0, 3, 3), PASSES);
        due.is("rising", says(2, 0, 0, -5, 0, 5), PASSES);
        due.is("the second", says(2, 0, 0, 3, 2, 5), FAILS);
        due.is("the last", says(2, 0, 0, 2, 3, 2), FAILS);
    }

    private static void kOrMore() {
        due.by("3: if there are k or more");
        due.is("one fewer", says(3, 3, 0, 1, 1), PASSES);
        due.is("k", says(3, 2, 0, 1, 1), FAILS);
        due.is("one more", says(3, 1, 0, 1, 1), FAILS);
        due.is("none, k 0", says(3, 0, 0), FAILS);
        due.is("none, k 1", says(3, 1, 0), PASSES);
        due.is("none, k below 0", says(3, Integer.MIN_VALUE, 0), FAILS);
    }

    private static void thrownIfOneIsK() {
        due.by("4: if one is k, it is THROWN (2). Else it PASSES (0)");
        due.is("of none", says(4, 0, 0), PASSES);
        due.is("the first", says(4, 3, 0, 3, 4, 5), THROWN);
        due.is("the last", says(4, 5, 0, 3, 4, 5), THROWN);
        due.is("neither", says(4, 2, 0, 3, 4, 5), PASSES);
    }

    private static void keptOneIsFoundFirst() {
        due.by("KEPT ROWS are REPLAYED: if one makes it FAIL or be THROWN, that is FOUND");
        for (int kind = 1; kind <= 4; kind += 3) {
            int k = kind;
            PropertyShrink x = Found.row(() -> {
                PropertyShrink y = new PropertyShrink();
                y.generator(INT, 0, 100);
                y.generator(PAIR, 0, 0);
                y.property(k, 7, 0);
                return y;
            }, 1, 7, 2);
            x.shrink(400);
            due.rowIs("shrunk, kind " + kind, x, 0, 7);
            due.is("a try of size 0 draws no 7, kind " + kind, x.check(1, 0, 12345, 1), FOUND);
            due.rowIs("as it was kept, kind " + kind, x, 7, 2);
            due.is("no wastes, kind " + kind, x.size(3), 0);
            due.is("kept once, kind " + kind, x.size(2), 1);
        }
    }

    private static void keptOneOfThisPairOnly() {
        due.by("KEPT ROWS of this GENERATOR and PROPERTY");
        PropertyShrink x = Found.row(() -> {
            PropertyShrink y = new PropertyShrink();
            y.generator(INT, 0, 100);
            y.property(1, 7, 0);
            return y;
        }, 0, 7);
        x.generator(INT, 0, 100);
        x.property(1, 7, 0);
        due.is("its own", x.check(0, 0, 12345, 1), FOUND);
        due.is("another generator", x.check(1, 0, 12345, 1), 1);
        due.is("another property", x.check(0, 1, 12345, 1), 1);
        due.is("kept", x.size(2), 1);
    }

    private static void illIsAWaste() {
        due.by("One that is ILL is a WASTE");
        PropertyShrink x = new PropertyShrink();
        x.generator(INT, 2, 2);
        x.generator(KEEP, 0, 1);
        x.property(3, 0, 0);
        due.is("check", x.check(1, 0, 0, 7), TOO_FEW);
        due.is("wastes", x.size(3), 8);
    }

    private static void discardedIsAWaste() {
        due.by("One that is DISCARDED is a WASTE");
        PropertyShrink x = new PropertyShrink();
        x.generator(INT, 2, 2);
        x.property(3, 0, 2);
        due.is("check", x.check(0, 0, 0, 7), TOO_FEW);
        due.is("wastes", x.size(3), 8);
        due.is("kept", x.size(2), 0);
    }

    /** ONE OF a number, which passes, and none, which is discarded: a seed for each end that is near. */
    private static void moreWastesThanRuns() {
        due.by("more WASTES than RUNS: TOO FEW (- 2)");
        for (int runs : new int[] {1, 2, 59, 60}) {
            int seen = 0;
            for (long seed = 0; seen != 3; seed++) {
                Seeded s = new Seeded(seed);
                int wastes = 0;
                int passed = 0;
                while (wastes <= runs && passed < runs) {
                    if (s.upTo(1) == 0) {
                        s.upTo(0);
                        passed++;
                    } else {
                        wastes++;
                    }
                }
                if (wastes >= runs && passed >= runs - 1) {
                    seen |= passed == runs ? 1 : 2;
                    PropertyShrink x = new PropertyShrink();
                    x.generator(INT, 0, 0);
                    x.generator(LIST, 0, 0);
                    x.generator(ONE_OF, 0, 1);
                    x.property(3, 2, 1);
                    due.is("runs " + runs, x.check(2, 0, seed, runs), passed == runs ? runs : TOO_FEW);
                    due.is("runs " + runs + ", wastes", x.size(3), wastes);
                }
            }
        }
    }

    private static void theFirstOneIsFound() {
        due.by("The first one that FAILS or is THROWN is FOUND (- 1): its ROW is the ROW, and KEPT");
        for (int kind = 1; kind <= 4; kind += 3) {
            PropertyShrink x = new PropertyShrink();
            x.generator(INT, 0, 1);
            x.property(kind, 1, 0);
            Seeded s = new Seeded(3);
            int tries = 1;
            while (s.upTo(1) == 0) {
                tries++;
            }
            if (tries > 1) {
                due.is("one run fewer", x.check(0, 0, 3, tries - 1), tries - 1);
                due.rowIs("no row", x);
                due.is("none kept", x.size(2), 0);
            }
            due.is("just so many runs", x.check(0, 0, 3, tries), FOUND);
            due.rowIs("the row", x, 1);
            due.is("kept", x.size(2), 1);
        }
    }

    private static void soManyRunsPass() {
        due.by("So many RUNS that PASS: they are told");
        PropertyShrink x = passing();
        x.generator(INT, 0, 9);
        for (int runs = 1; runs <= 60; runs++) {
            due.is("runs " + runs, x.check(0, 0, runs, runs), runs);
        }
        due.rowIs("no row", x);
    }

    /** A found row of n zeros, none of whose steps goes, as all of them are drops and so ILL. */
    private static PropertyShrink zeros(int n) {
        PropertyShrink x = n == 60 ? Wide.of(0, 0) : new PropertyShrink();
        int generator = Wide.SIXTY;
        if (n != 60) {
            x.generator(INT, 0, 0);
            generator = Wide.times(x, 0, n);
        }
        x.property(3, 0, 0);
        due.is("found " + n + " zeros", x.check(generator, 0, 0, 1), FOUND);
        due.rowIs(n + " zeros", x, new int[n]);
        return x;
    }

    private static void dropsThatFit() {
        due.by("DROP n CHOICES from place i on: n 8, 4, 2, 1 (with n CHOICES from there on)");
        int[][] lengthsAndDrops = {
            {1, 1}, {2, 1 + 2}, {3, 2 + 3}, {4, 1 + 3 + 4}, {5, 2 + 4 + 5}, {7, 4 + 6 + 7},
            {8, 1 + 5 + 7 + 8}, {9, 2 + 6 + 8 + 9}, {60, 53 + 57 + 59 + 60},
        };
        for (int[] l : lengthsAndDrops) {
            PropertyShrink x = zeros(l[0]);
            due.is("all drops of " + l[0], x.shrink(l[1]), 0);
            due.is("no one more could be tried", x.least(), false);
            due.is("one more", x.shrink(l[1] + 1), 0);
            due.is("it could be tried", x.least(), true);
        }
    }

    /** Lists that may be empty: a drop of all but the last 0 leaves the empty list. */
    private static void dropsInOrder() {
        due.by("DROP, in turn i 0, 1, ..");
        Supplier<PropertyShrink> maker = () -> {
            PropertyShrink x = new PropertyShrink();
            x.generator(INT, 0, 3);
            x.generator(LIST, 0, 9);
            x.property(0, -1, 0);
            return x;
        };
        shrinks(Found.row(maker, 1, 1, 1, 0), 1, 1, row(0));
        shrinks(Found.row(maker, 1, 1, 1, 1, 0, 0), 1, 1, row(0));
        shrinks(Found.row(maker, 1, 1, 1, 1, 0, 1, 1, 0), 1, 1, row(1, 1, 0));
        shrinks(Found.row(maker, 1, 1, 1, 1, 1, 1, 0, 1, 1, 0), 1, 1, row(0));
        // Of an item that is wanted: four from 0 leave none, four from 1 the 1 alone, two from 0 go.
        Supplier<PropertyShrink> wanted = () -> {
            PropertyShrink x = new PropertyShrink();
            x.generator(INT, 0, 3);
            x.generator(LIST, 0, 9);
            x.property(3, 1, 0);
            return x;
        };
        shrinks(Found.row(wanted, 1, 1, 1, 1, 0, 0), 2, 0, row(1, 1, 1, 0, 0));
        shrinks(Found.row(wanted, 1, 1, 1, 1, 0, 0), 3, 1, row(1, 0, 0));
    }

    private static void shrinks(PropertyShrink x, int tries, int got, int[] row) {
        String before = Arrays.toString(Found.rowOf(x));
        due.is(before + " shrink(" + tries + ")", x.shrink(tries), got);
        due.rowIs(before + " behind " + tries, x, row);
    }

    /** INT, of which a certain choice alone fails: the drop is ILL, and no lowering goes. */
    private static void lowersWhatIsAboveZero() {
        due.by("LOWER, if it is above 0: to 0; to half of it (down), if above 0; by 1, if none of these");
        int[][] choicesAndWays = {{0, 0}, {1, 1}, {2, 2}, {3, 3}, {4, 3}, {9, 3}};
        for (int[] c : choicesAndWays) {
            Supplier<PropertyShrink> maker = () -> {
                PropertyShrink x = new PropertyShrink();
                x.generator(INT, 0, 1000);
                x.property(1, c[0], 0);
                return x;
            };
            PropertyShrink x = Found.row(maker, 0, c[0]);
            due.is("the drop and all ways of " + c[0], x.shrink(1 + c[1]), 0);
            due.is("no one more could be tried for " + c[0], x.least(), false);
            due.is("one more for " + c[0], x.shrink(2 + c[1]), 0);
            due.is("it could be tried for " + c[0], x.least(), true);
        }
        Supplier<PropertyShrink> any = () -> above(-1);
        shrinks(Found.row(any, 0, 1), 2, 1, row(0));
        Supplier<PropertyShrink> half = () -> above(3);
        shrinks(Found.row(half, 0, 9), 2, 0, row(9));
        shrinks(Found.row(half, 0, 9), 3, 1, row(4));
        Supplier<PropertyShrink> byOne = () -> above(4);
        shrinks(Found.row(byOne, 0, 9), 3, 0, row(9));
        shrinks(Found.row(byOne, 0, 9), 4, 1, row(8));
    }

    private static PropertyShrink above(int k) {
        PropertyShrink x = new PropertyShrink();
        x.generator(INT, 0, 1000);
        x.property(0, k, 0);
        return x;
    }

    /** Pairs whose sum must stay: three drops, then the lowerings, then perhaps a swap. */
    private static void swapsOnlyAGreaterOne() {
        due.by("SWAP those at i and i + 1, if the first one is greater");
        int[][] pairs = {{1, 1}, {1, 2}, {2, 1}};
        for (int[] p : pairs) {
            Supplier<PropertyShrink> maker = () -> {
                PropertyShrink x = new PropertyShrink();
                x.generator(INT, 0, 9);
                x.generator(PAIR, 0, 0);
                x.property(0, p[0] + p[1] - 1, 0);
                return x;
            };
            int before = 3 + p[0] + p[1];
            if (p[0] > p[1]) {
                shrinks(Found.row(maker, 1, p), before, 0, p);
                shrinks(Found.row(maker, 1, p), before + 1, 1, row(p[1], p[0]));
            } else {
                PropertyShrink x = Found.row(maker, 1, p);
                shrinks(x, before + 1, 0, p);
                due.is("least", x.least(), true);
            }
        }
    }

    /** Threes whose sum must stay above k: five drops, then the lowerings, then the swaps. */
    private static void swapsInOrder() {
        due.by("SWAP those at i and i + 1: in order");
        // [3 2 1], six lowerings: the first swap goes, then the second.
        shrinks(Found.row(() -> three(9, 5), 3, 3, 2, 1), 11, 0, row(3, 2, 1));
        shrinks(Found.row(() -> three(9, 5), 3, 3, 2, 1), 12, 1, row(2, 3, 1));
        shrinks(Found.row(() -> three(9, 5), 3, 3, 2, 1), 24, 2, row(2, 1, 3));
        // [3 1 0], four lowerings: a 3 in the second place is ILL, so the second swap goes.
        shrinks(Found.row(() -> three(1, 3), 3, 3, 1, 0), 10, 0, row(3, 1, 0));
        shrinks(Found.row(() -> three(1, 3), 3, 3, 1, 0), 11, 1, row(3, 0, 1));
    }

    /** Generator 3 gives INT 0 .. 9 and two of INT 0 .. high; it fails if the sum is above k. */
    private static PropertyShrink three(int high, int k) {
        PropertyShrink x = new PropertyShrink();
        x.generator(INT, 0, 9);
        x.generator(INT, 0, high);
        x.generator(PAIR, 1, 1);
        x.generator(PAIR, 0, 2);
        x.property(0, k, 0);
        return x;
    }

    private static void sameVerdictGoes() {
        due.by("A STEP GOES if it isn't ILL and the PROPERTY does the same (FAILS, THROWN)");
        Supplier<PropertyShrink> one = () -> {
            PropertyShrink x = new PropertyShrink();
            x.generator(INT, 0, 3);
            x.generator(LIST, 0, 9);
            x.property(3, 0, 1);
            return x;
        };
        // Of [1 1 0]: two from 0 are DISCARDED, two from 1 ILL, one from 0 ILL, then [1 0] ILL ..
        PropertyShrink x = Found.row(one, 1, 1, 1, 0);
        shrinks(x, 400, 1, row(1, 0, 0));
        due.is("least", x.least(), true);
        Supplier<PropertyShrink> thrown = () -> {
            PropertyShrink y = new PropertyShrink();
            y.generator(INT, 0, 3);
            y.generator(PAIR, 0, 0);
            y.property(4, 2, 0);
            return y;
        };
        PropertyShrink y = Found.row(thrown, 1, 2, 1);
        shrinks(y, 400, 2, row(0, 2));
        due.is("least", y.least(), true);
    }

    /** Sixty bits that always fail: each time 229 drops are tried before a 1 is lowered. */
    private static void asManyAsTold() {
        due.by("as many as it is told");
        PropertyShrink x = Wide.of(0, 1);
        x.property(3, 0, 0);
        due.is("found", x.check(Wide.SIXTY, 0, 1, 1), FOUND);
        int[] bits = Found.rowOf(x);
        int ones = Arrays.stream(bits).sum();
        due.is("more than two ones", ones > 2, true);
        due.is("229", x.shrink(229), 0);
        due.is("230", x.shrink(230), 1);
        due.is("400", x.shrink(400), 1);
        due.is("not least", x.least(), false);
        due.is("two ones fewer", Arrays.stream(Found.rowOf(x)).sum(), ones - 2);
        due.is("0", x.shrink(0), 0);
        due.is("1", x.shrink(1), 0);
    }

    private static void leastIfOneMoreCouldBeTried() {
        due.by("if none GOES, and one more could be tried, the ROW is LEAST");
        Supplier<PropertyShrink> maker = () -> above(5);
        for (int tries = 0; tries <= 7; tries++) {
            PropertyShrink x = Found.row(maker, 0, 6);
            due.is("shrink(" + tries + ")", x.shrink(tries), 0);
            due.is("least behind " + tries, x.least(), tries >= 5);
        }
        // The step that goes is the last that could be tried: nothing is known of what it leaves.
        PropertyShrink x = Found.row(maker, 0, 7);
        due.is("shrink(4)", x.shrink(4), 1);
        due.is("least behind the step that went", x.least(), false);
    }

    private static void emptyRowIsLeast() {
        due.by("if none GOES: an empty ROW has no STEP");
        PropertyShrink x = new PropertyShrink();
        x.generator(INT, 0, 0);
        x.generator(LIST, 0, 0);
        x.property(3, 0, 0);
        due.is("found", x.check(1, 0, 0, 1), FOUND);
        due.rowIs("empty", x);
        due.is("shrink(0)", x.shrink(0), 0);
        due.is("none could be tried", x.least(), false);
        due.is("shrink(1)", x.shrink(1), 0);
        due.is("one could be tried", x.least(), true);
    }

    private static void beginsAnew() {
        due.by("the first that GOES gives the new ROW, and they begin anew");
        // Of [1 1]: three drops, [0 1] goes; three drops, [0 0] goes; three drops and no more.
        for (int tries = 0; tries <= 12; tries++) {
            PropertyShrink x = Found.row(() -> {
                PropertyShrink y = new PropertyShrink();
                y.generator(INT, 0, 9);
                y.generator(PAIR, 0, 0);
                y.property(3, 0, 0);
                return y;
            }, 1, 1, 1);
            int got = tries < 4 ? 0 : tries < 8 ? 1 : 2;
            shrinks(x, tries, got, row(got > 0 ? 0 : 1, got > 1 ? 0 : 1));
            due.is("least behind " + tries, x.least(), tries == 12);
        }
    }

    private static void withoutWhatIsLeftOut() {
        due.by("gives the new ROW (without what is left out)");
        Supplier<PropertyShrink> maker = () -> {
            PropertyShrink x = new PropertyShrink();
            x.generator(INT, 0, 3);
            x.generator(PAIR, 0, 0);
            x.generator(ONE_OF, 0, 1);
            x.property(3, 1, 0);
            return x;
        };
        // Of [1 1 1]: two from 0 leave [1], two from 1 [1], one each [1 1]; then [0 1 1], without the last.
        PropertyShrink x = Found.row(maker, 2, 1, 1, 1);
        shrinks(x, 5, 0, row(1, 1, 1));
        shrinks(x, 6, 1, row(0, 1));
        due.numbersAre("shrunk", x, 1);
        // Of [1 1], at most one item: [], [1] and [1] are ILL; [0 1] ends at once, without the last.
        PropertyShrink list = Found.row(() -> {
            PropertyShrink y = new PropertyShrink();
            y.generator(INT, 0, 3);
            y.generator(LIST, 0, 1);
            y.property(3, 0, 0);
            return y;
        }, 1, 1, 1);
        shrinks(list, 3, 0, row(1, 1));
        shrinks(list, 4, 1, row(0));
        due.numbersAre("ended", list);
    }
}
