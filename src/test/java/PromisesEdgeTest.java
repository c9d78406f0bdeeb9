import java.math.BigInteger;
import java.util.Arrays;
import java.util.function.Supplier;

/** Promises 1 to 13: each sentence that names an edge has a method of its own, in the document's order. */
public final class PromisesEdgeTest {
    private static final int NONE = PropertyShrink.NONE;
    private static final int FOUND = -1;
    private static final int TOO_FEW = -2;
    private static final int NO_SUCH = -3;
    private static final int FEWEST = Integer.MIN_VALUE;
    private static final int MOST = Integer.MAX_VALUE;

    private static final int INT = 0;
    private static final int LIST = 1;
    private static final int PAIR = 2;
    private static final int ONE_OF = 3;
    private static final int KEEP = 4;
    private static final int ADD = 5;

    private static final Due due = new Due();

    public static void main(String[] args) {
        newObject();
        generator();
        property();
        check();
        shrink();
        least();
        replay();
        put();
        tell();
        all();
        sum();
        allFiveHundredAndTwelveCalls();
        due.end();
    }

    private static void newObject() {
        noGenerators();
        noProperties();
        noRow();
    }

    private static void generator() {
        noneIfThereAreTwenty();
        noneIfNoSuchKind();
        intEnds();
        intNotAboveB();
        listEnds();
        keepEnds();
        addEnds();
        partsMustBeThere();
        noneIfTooDeep();
        refusedGeneratorUsesNoNumber();
    }

    private static void property() {
        noneIfThereAreTen();
        noneIfNoSuchPropertyKind();
        leastFromZeroToTen();
        anyK();
        refusedPropertyUsesNoNumber();
    }

    private static void check() {
        runsFromOneToSixty();
        noSuchGeneratorToCheck();
        noSuchPropertyToCheck();
        nothingIsDoneThen();
    }

    private static void shrink() {
        triesFromZeroToFourHundred();
        noneIfThereIsNoRow();
        refusedShrinkChangesNothing();
        theRowThatWasFoundLast();
        howManyGot();
    }

    private static void least() {
        eachCheckThatFoundOneIsNo();
        otherCallsLeaveLeast();
    }

    private static void replay() {
        asFarAsItWasPut();
        noneIfNoneSuchAndPutStays();
        elseWhatWasPutGoes();
        theRowStays();
        noNumbersIfIll();
    }

    private static void put() {
        falseIfBelowZero();
        falseIfThereAreSixty();
    }

    private static void tell() {
        noChoiceThere();
        noneForAnotherWhat();
        sizesOfNothing();
        sizesOfFull();
        wastesOfTheLatestCheck();
        noNumberThere();
        numbersOfTheLatest();
    }

    private static void all() {
        mostFromOneToTwoHundred();
        noneSuchToGoThrough();
        upToMost();
        nothingBeingLeftOut();
        inRisingOrder();
        illOnesDoNotCount();
        atMostTwoThousand();
        allOfRowsOfSixty();
    }

    private static void sum() {
        zeroBefore();
        zeroAtFirst();
        sumWraps();
        notOfARefusedAll();
    }

    /** An object with INT 0 .. 9 and a property that always FAILS. */
    private static PropertyShrink failing() {
        PropertyShrink x = new PropertyShrink();
        x.generator(INT, 0, 9);
        x.property(3, 0, 0);
        return x;
    }

    private static void noGenerators() {
        due.by("Promise 1: No GENERATORS");
        PropertyShrink x = new PropertyShrink();
        x.property(3, 0, 0);
        due.is("all(0, 1)", x.all(0, 1), -1);
        due.is("check(0, 0, 0, 1)", x.check(0, 0, 0, 1), NO_SUCH);
        due.is("replay(0, 0)", x.replay(0, 0), NONE);
        due.is("generator(LIST, 0, 0)", x.generator(LIST, 0, 0), NONE);
        due.is("generator(INT, 0, 0)", x.generator(INT, 0, 0), 0);
    }

    private static void noProperties() {
        due.by("Promise 1: no PROPERTIES");
        PropertyShrink x = new PropertyShrink();
        x.generator(INT, 0, 0);
        due.is("check(0, 0, 0, 1)", x.check(0, 0, 0, 1), NO_SUCH);
        x.put(0);
        due.is("replay(0, 0)", x.replay(0, 0), NONE);
        due.is("property(0, 0, 0)", x.property(0, 0, 0), 0);
        due.is("replay(0, 0) then", x.replay(0, 0), 0);
    }

    private static void noRow() {
        due.by("Promise 1: no ROW");
        PropertyShrink x = new PropertyShrink();
        due.rowIs("new", x);
        due.numbersAre("new", x);
        due.is("shrink(0)", x.shrink(0), NONE);
        due.is("shrink(400)", x.shrink(400), NONE);
        due.is("least()", x.least(), false);
    }

    private static void noneIfThereAreTwenty() {
        due.by("Promise 2: NONE if there are 20");
        PropertyShrink x = new PropertyShrink();
        for (int i = 0; i < 20; i++) {
            due.is("generator " + i, x.generator(INT, 0, 0), i);
        }
        due.is("one more", x.generator(INT, 0, 0), NONE);
        due.is("one more of parts", x.generator(PAIR, 0, 0), NONE);
        due.is("there is no number 20", x.all(20, 1), -1);
    }

    private static void refusesGenerator(PropertyShrink x, int kind, int a, int b) {
        due.is("generator(" + kind + ", " + a + ", " + b + ")", x.generator(kind, a, b), NONE);
    }

    private static void makesGenerator(PropertyShrink x, int kind, int a, int b, int number) {
        due.is("generator(" + kind + ", " + a + ", " + b + ")", x.generator(kind, a, b), number);
    }

    private static void noneIfNoSuchKind() {
        due.by("Promise 2: NONE if no such kind");
        PropertyShrink x = failing();
        for (int kind : new int[] {-1, 6, 7, FEWEST, MOST}) {
            refusesGenerator(x, kind, 0, 0);
            refusesGenerator(x, kind, 0, 1);
        }
        for (int kind = INT; kind <= ADD; kind++) {
            makesGenerator(x, kind, 0, 0, 1 + kind);
        }
    }

    private static void intEnds() {
        due.by("Promise 2: INT: - 1000 .. 1000");
        PropertyShrink x = new PropertyShrink();
        refusesGenerator(x, INT, -1001, 0);
        refusesGenerator(x, INT, 0, 1001);
        refusesGenerator(x, INT, -1001, -1001);
        refusesGenerator(x, INT, 1001, 1001);
        refusesGenerator(x, INT, FEWEST, 0);
        refusesGenerator(x, INT, 0, MOST);
        refusesGenerator(x, INT, FEWEST, MOST);
        makesGenerator(x, INT, -1000, 1000, 0);
        makesGenerator(x, INT, -1000, -1000, 1);
        makesGenerator(x, INT, 1000, 1000, 2);
    }

    private static void intNotAboveB() {
        due.by("Promise 2: INT: a not above b");
        PropertyShrink x = new PropertyShrink();
        refusesGenerator(x, INT, 1, 0);
        refusesGenerator(x, INT, 1000, -1000);
        refusesGenerator(x, INT, 0, -1);
        makesGenerator(x, INT, 0, 0, 0);
        makesGenerator(x, INT, -1, 0, 1);
    }

    private static void listEnds() {
        due.by("Promise 2: LIST of a, at most b (0 .. 9)");
        PropertyShrink x = failing();
        for (int b : new int[] {-1, 10, FEWEST, MOST}) {
            refusesGenerator(x, LIST, 0, b);
        }
        makesGenerator(x, LIST, 0, 0, 1);
        makesGenerator(x, LIST, 0, 9, 2);
    }

    private static void keepEnds() {
        due.by("Promise 2: KEEP: 0, 1");
        PropertyShrink x = failing();
        for (int b : new int[] {-1, 2, FEWEST, MOST}) {
            refusesGenerator(x, KEEP, 0, b);
        }
        makesGenerator(x, KEEP, 0, 0, 1);
        makesGenerator(x, KEEP, 0, 1, 2);
    }

    private static void addEnds() {
        due.by("Promise 2: ADD: b - 1000 .. 1000");
        PropertyShrink x = failing();
        for (int b : new int[] {-1001, 1001, FEWEST, MOST}) {
            refusesGenerator(x, ADD, 0, b);
        }
        makesGenerator(x, ADD, 0, -1000, 1);
        makesGenerator(x, ADD, 0, 1000, 2);
    }

    private static void partsMustBeThere() {
        due.by("Promise 2: NONE if a, b aren't as told");
        PropertyShrink x = failing();
        for (int none : new int[] {-1, 1, 19, 20, FEWEST, MOST}) {
            for (int kind = LIST; kind <= ADD; kind++) {
                refusesGenerator(x, kind, none, 0);
            }
            refusesGenerator(x, PAIR, 0, none);
            refusesGenerator(x, ONE_OF, 0, none);
        }
        makesGenerator(x, PAIR, 0, 0, 1);
        makesGenerator(x, ONE_OF, 0, 1, 2);
    }

    private static void noneIfTooDeep() {
        due.by("Promise 2: NONE if it is too DEEP");
        PropertyShrink x = failing();
        for (int i = 0; i < 7; i++) {
            makesGenerator(x, LIST, i, 1, i + 1);
        }
        for (int kind = LIST; kind <= ADD; kind++) {
            refusesGenerator(x, kind, 7, 0);
        }
        refusesGenerator(x, PAIR, 0, 7);
        refusesGenerator(x, ONE_OF, 0, 7);
        makesGenerator(x, LIST, 6, 1, 8);
    }

    private static void refusedGeneratorUsesNoNumber() {
        due.by("Promise 2: A new GENERATOR: its number");
        PropertyShrink x = new PropertyShrink();
        for (int i = 0; i < 20; i++) {
            refusesGenerator(x, INT, 1, 0);
            makesGenerator(x, INT, i, i, i);
        }
        for (int i = 0; i < 20; i++) {
            due.is("all(" + i + ", 1)", x.all(i, 1), 1);
            due.is("sum of " + i, x.sum(), 31 * i + 7);
        }
    }

    private static void noneIfThereAreTen() {
        due.by("Promise 3: NONE if there are 10");
        PropertyShrink x = new PropertyShrink();
        for (int i = 0; i < 10; i++) {
            due.is("property " + i, x.property(i % 5, 0, 0), i);
        }
        due.is("one more", x.property(0, 0, 0), NONE);
        x.generator(INT, 0, 0);
        due.is("there is no number 10", x.check(0, 10, 0, 1), NO_SUCH);
    }

    private static void noneIfNoSuchPropertyKind() {
        due.by("Promise 3: NONE if no such kind");
        PropertyShrink x = new PropertyShrink();
        for (int kind : new int[] {-1, 5, 6, FEWEST, MOST}) {
            due.is("property(" + kind + ", 0, 0)", x.property(kind, 0, 0), NONE);
        }
        due.is("property(0, 0, 0)", x.property(0, 0, 0), 0);
        due.is("property(4, 0, 0)", x.property(4, 0, 0), 1);
    }

    private static void leastFromZeroToTen() {
        due.by("Promise 3: NONE if LEAST isn't 0 .. 10");
        PropertyShrink x = new PropertyShrink();
        for (int least : new int[] {-1, 11, FEWEST, MOST}) {
            due.is("property(0, 0, " + least + ")", x.property(0, 0, least), NONE);
        }
        due.is("property(0, 0, 0)", x.property(0, 0, 0), 0);
        due.is("property(0, 0, 10)", x.property(0, 0, 10), 1);
    }

    private static void anyK() {
        due.by("Promise 3: k isn't bounded");
        PropertyShrink x = new PropertyShrink();
        for (int kind = 0; kind <= 4; kind++) {
            due.is("property(" + kind + ", least int, 0)", x.property(kind, FEWEST, 0), 2 * kind);
            due.is("property(" + kind + ", greatest int, 0)", x.property(kind, MOST, 0), 2 * kind + 1);
        }
    }

    private static void refusedPropertyUsesNoNumber() {
        due.by("Promise 3: A new PROPERTY: its number");
        PropertyShrink x = new PropertyShrink();
        x.generator(INT, 0, 9);
        for (int i = 0; i < 10; i++) {
            due.is("refused", x.property(5, 0, 0), NONE);
            due.is("property(1, " + i + ", 0)", x.property(1, i, 0), i);
        }
        for (int i = 0; i < 10; i++) {
            due.is("property " + i + " of its k", Due.replayOf(x, 0, i, i), 1);
            due.is("property " + i + " of another", Due.replayOf(x, 0, i, 9 - i), 0);
        }
    }

    private static void runsFromOneToSixty() {
        due.by("Promise 4: so many RUNS (1 .. 60)");
        PropertyShrink x = failing();
        x.property(0, 9, 0);
        for (int runs : new int[] {0, -1, 61, 62, FEWEST, MOST}) {
            due.is("failing, runs " + runs, x.check(0, 0, 5, runs), NO_SUCH);
            due.is("passing, runs " + runs, x.check(0, 1, 5, runs), NO_SUCH);
        }
        due.is("passing, runs 1", x.check(0, 1, 5, 1), 1);
        due.is("passing, runs 60", x.check(0, 1, 5, 60), 60);
        due.is("failing, runs 1", x.check(0, 0, 5, 1), FOUND);
        due.is("kept, runs 60", x.check(0, 0, 5, 60), FOUND);
        due.is("kept, runs 0", x.check(0, 0, 5, 0), NO_SUCH);
        due.is("kept, runs 61", x.check(0, 0, 5, 61), NO_SUCH);
    }

    private static void noSuchGeneratorToCheck() {
        due.by("Promise 4: - 3 if there are none such: GENERATOR");
        PropertyShrink x = failing();
        for (int g : new int[] {-1, 1, 19, 20, FEWEST, MOST}) {
            due.is("check(" + g + ", 0, 0, 1)", x.check(g, 0, 0, 1), NO_SUCH);
        }
        due.is("check(0, 0, 0, 1)", x.check(0, 0, 0, 1), FOUND);
    }

    private static void noSuchPropertyToCheck() {
        due.by("Promise 4: - 3 if there are none such: PROPERTY");
        PropertyShrink x = failing();
        for (int p : new int[] {-1, 1, 9, 10, FEWEST, MOST}) {
            due.is("check(0, " + p + ", 0, 1)", x.check(0, p, 0, 1), NO_SUCH);
        }
        due.is("check(0, 0, 0, 1)", x.check(0, 0, 0, 1), FOUND);
    }

    /** INT 0 .. 1000, whose choices above 5 fail: a 6 was found and is LEAST; and what else there is. */
    private static PropertyShrink leastSix() {
        PropertyShrink x = Found.row(() -> {
            PropertyShrink y = new PropertyShrink();
            y.generator(INT, 0, 1000);
            y.property(0, 5, 0);
            y.property(0, 5, 2);
            return y;
        }, 0, 6);
        due.is("nothing goes", x.shrink(400), 0);
        due.is("too few", x.check(0, 1, 0, 3), TOO_FEW);
        due.is("all", x.all(0, 2), 2);
        x.put(4);
        due.is("replay", x.replay(0, 0), 0);
        x.put(8);
        isLeastSix("made", x);
        return x;
    }

    /** Whether all that can be told of leastSix is as it was, but for what was put. */
    private static void isLeastSix(String when, PropertyShrink x) {
        due.rowIs(when, x, 6);
        due.numbersAre(when, x, 4);
        due.is(when + ": kept", x.size(2), 1);
        due.is(when + ": wastes", x.size(3), 4);
        due.is(when + ": least", x.least(), true);
        due.is(when + ": sum", x.sum(), 7 * 31 * 31 + 31 + 7);
    }

    private static void nothingIsDoneThen() {
        due.by("Promise 4: - 3 (nothing is done then)");
        PropertyShrink x = leastSix();
        int[][] wrong = {{1, 0, 1}, {-1, 0, 1}, {0, 2, 1}, {0, -1, 1}, {0, 0, 0}, {0, 0, 61}};
        for (int[] w : wrong) {
            due.is("check", x.check(w[0], w[1], 0, w[2]), NO_SUCH);
            isLeastSix("check " + Arrays.toString(w), x);
        }
        due.is("what was put", x.replay(0, 0), 1);
        due.numbersAre("what was put", x, 8);
    }

    private static void triesFromZeroToFourHundred() {
        due.by("Promise 5: with at most so many STEPS tried (0 .. 400)");
        PropertyShrink x = failing();
        x.check(0, 0, 0, 1);
        for (int tries : new int[] {-1, 401, 402, FEWEST, MOST}) {
            due.is("shrink(" + tries + ")", x.shrink(tries), NONE);
        }
        due.is("not least", x.least(), false);
        due.is("shrink(0)", x.shrink(0), 0);
        due.is("not least behind 0", x.least(), false);
        due.is("shrink(400)", x.shrink(400) >= 0, true);
        due.is("least behind 400", x.least(), true);
    }

    private static void noneIfThereIsNoRow() {
        due.by("Promise 5: NONE if there is no ROW");
        PropertyShrink x = failing();
        x.property(0, 9, 0);
        x.property(3, 0, 2);
        due.is("new", x.shrink(5), NONE);
        due.is("passes", x.check(0, 1, 0, 9), 9);
        due.is("behind a check that passed", x.shrink(5), NONE);
        due.is("too few", x.check(0, 2, 0, 9), TOO_FEW);
        due.is("behind too few", x.shrink(5), NONE);
        due.is("none such", x.check(0, 3, 0, 9), NO_SUCH);
        due.is("behind none such", x.shrink(5), NONE);
        due.is("replay", Due.replayOf(x, 0, 0, 3), 1);
        due.is("behind a replay that fails", x.shrink(5), NONE);
        due.is("all", x.all(0, 9), 9);
        due.is("behind all", x.shrink(0), NONE);
        due.numbersAre("the replay's", x, 3);
        due.is("found", x.check(0, 0, 0, 9), FOUND);
        due.is("behind a check that found one", x.shrink(0), 0);
    }

    private static void refusedShrinkChangesNothing() {
        due.by("Promise 5: NONE if it isn't so");
        PropertyShrink x = leastSix();
        for (int tries : new int[] {-1, 401, FEWEST, MOST}) {
            due.is("shrink(" + tries + ")", x.shrink(tries), NONE);
            isLeastSix("shrink(" + tries + ")", x);
        }
        due.is("what was put", x.replay(0, 0), 1);
    }

    private static void theRowThatWasFoundLast() {
        due.by("Promise 5: SHRINKING the ROW that was FOUND last");
        PropertyShrink x = new PropertyShrink();
        x.generator(INT, 0, 1);
        x.generator(INT, 5, 5);
        x.property(1, 1, 0);
        x.property(1, 5, 0);
        due.is("found a 1", x.check(0, 0, 1, 60), FOUND);
        due.is("found a 5", x.check(1, 1, 1, 60), FOUND);
        due.is("found none", x.check(1, 0, 1, 60), 60);
        due.is("replayed", Due.replayOf(x, 0, 0, 1), 1);
        due.is("shrink", x.shrink(400), 0);
        due.rowIs("the second", x, 0);
        due.numbersAre("the second", x, 5);
        due.is("found the 1 again", x.check(0, 0, 1, 60), FOUND);
        due.is("shrink", x.shrink(400), 0);
        due.rowIs("the first", x, 1);
        due.numbersAre("the first", x, 1);
    }

    private static void howManyGot() {
        due.by("Promise 5: how many GOT");
        Supplier<PropertyShrink> maker = () -> {
            PropertyShrink x = new PropertyShrink();
            x.generator(INT, 0, 1000);
            x.property(0, 5, 0);
            return x;
        };
        // 11 goes down by one, four tries each, to 6.
        for (int tries = 0; tries <= 26; tries++) {
            due.is("of 11, shrink(" + tries + ")", Found.row(maker, 0, 11).shrink(tries), Math.min(5, tries / 4));
        }
    }

    private static void eachCheckThatFoundOneIsNo() {
        due.by("Promise 6: each check that FOUND one: no");
        PropertyShrink x = failing();
        due.is("new", x.least(), false);
        x.check(0, 0, 0, 1);
        due.is("found by a try", x.least(), false);
        x.shrink(400);
        due.is("shrunk", x.least(), true);
        x.check(0, 0, 0, 1);
        due.is("found among the kept", x.least(), false);
        x.shrink(400);
        due.is("shrunk again", x.least(), true);
        x.property(3, 0, 1);
        x.check(0, 1, 0, 1);
        due.is("another found", x.least(), false);
    }

    private static void otherCallsLeaveLeast() {
        due.by("Promise 6: Whether the ROW is LEAST, as far as was found");
        PropertyShrink x = leastSix();
        due.is("too few", x.check(0, 1, 0, 3), TOO_FEW);
        due.is("least behind too few", x.least(), true);
        x.generator(INT, 0, 0);
        due.is("passes", x.check(1, 0, 0, 3), 3);
        due.is("least behind passes", x.least(), true);
        for (int tries : new int[] {0, 1, 400, 401}) {
            x.shrink(tries);
            due.is("least behind shrink(" + tries + ")", x.least(), true);
        }
        x.replay(0, 0);
        x.all(0, 3);
        due.is("least behind replay and all", x.least(), true);
    }

    private static void asFarAsItWasPut() {
        due.by("Promise 7: as far as it was put");
        PropertyShrink x = failing();
        x.generator(LIST, 0, 0);
        due.is("nothing put, nothing drawn", x.replay(1, 0), 1);
        due.numbersAre("nothing put, nothing drawn", x);
        due.is("nothing put, one drawn", x.replay(0, 0), 4);
        due.is("one put", Due.replayOf(x, 0, 0, 9), 1);
        due.numbersAre("one put", x, 9);
    }

    private static void noneIfNoneSuchAndPutStays() {
        due.by("Promise 7: NONE if there are none such (what was put stays then)");
        PropertyShrink x = leastSix();
        for (int none : new int[] {-1, 2, 20, FEWEST, MOST}) {
            due.is("replay(" + none + ", 0)", x.replay(none, 0), NONE);
            due.is("replay(0, " + none + ")", x.replay(0, none), NONE);
            isLeastSix("none such", x);
        }
        due.is("replay(1, 0)", x.replay(1, 0), NONE);
        due.is("it stayed", x.replay(0, 0), 1);
        due.numbersAre("it stayed", x, 8);
    }

    private static void elseWhatWasPutGoes() {
        due.by("Promise 7: Else what was put goes");
        PropertyShrink x = failing();
        x.property(3, 2, 0);
        x.property(4, 3, 0);
        x.property(3, 0, 2);
        int[][] propertiesChoicesAnswers = {{0, 3, 1}, {1, 3, 0}, {2, 3, 2}, {3, 3, 3}, {0, 10, 4}};
        for (int[] p : propertiesChoicesAnswers) {
            x.put(p[1]);
            x.put(3);
            due.is("replay(0, " + p[0] + ")", x.replay(0, p[0]), p[2]);
            due.is("it went", x.replay(0, 0), 4);
        }
    }

    private static void theRowStays() {
        due.by("Promise 7: The ROW stays; the NUMBERS are these");
        PropertyShrink x = failing();
        x.check(0, 0, 0, 1);
        int[] row = Found.rowOf(x);
        for (int choice = 0; choice <= 10; choice++) {
            due.is("replay", Due.replayOf(x, 0, 0, choice), choice > 9 ? 4 : 1);
            due.rowIs("behind replay", x, row);
            if (choice <= 9) {
                due.numbersAre("behind replay", x, choice);
            }
        }
        due.is("kept", x.size(2), 1);
    }

    private static void noNumbersIfIll() {
        due.by("Promise 7: none if ILL");
        PropertyShrink x = failing();
        x.generator(PAIR, 0, 0);
        x.generator(KEEP, 1, 0);
        int[][] ill = {{}, {3}, {3, 10}, {10, 3}};
        for (int[] choices : ill) {
            due.is("replay", Due.replayOf(x, 1, 0, 4, 5), 1);
            due.numbersAre("well", x, 4, 5);
            due.is("replay", Due.replayOf(x, 1, 0, choices), 4);
            due.numbersAre("ill by " + Arrays.toString(choices), x);
        }
        due.is("replay", Due.replayOf(x, 2, 0, 0, 1, 2, 3, 4, 5), 4);
        due.numbersAre("ill by the third of KEEP", x);
        x.property(3, 0, 3);
        due.is("replay", Due.replayOf(x, 1, 1, 4, 5), 3);
        due.numbersAre("DISCARDED isn't ILL", x, 4, 5);
    }

    private static void falseIfBelowZero() {
        due.by("Promise 8: false if it is below 0");
        PropertyShrink x = failing();
        due.is("put(-1)", x.put(-1), false);
        due.is("put(least int)", x.put(FEWEST), false);
        due.is("nothing was put", x.replay(0, 0), 4);
        due.is("put(0)", x.put(0), true);
        due.is("put(-1)", x.put(-1), false);
        due.is("the 0 was put", x.replay(0, 0), 1);
        due.numbersAre("the 0 was put", x, 0);
        due.is("put(greatest int)", x.put(MOST), true);
        due.is("it was put", x.replay(0, 0), 4);
    }

    private static void falseIfThereAreSixty() {
        due.by("Promise 8: false if there are 60");
        PropertyShrink x = Wide.of(0, 59);
        x.property(3, 0, 0);
        int[] rising = new int[60];
        for (int i = 0; i < 60; i++) {
            rising[i] = i;
            due.is("put " + i, x.put(i), true);
        }
        due.is("the sixty-first", x.put(0), false);
        due.is("the sixty-first again", x.put(59), false);
        due.is("below 0", x.put(-1), false);
        due.is("replay", x.replay(Wide.SIXTY, 0), 1);
        due.numbersAre("the sixty stay", x, rising);
        for (int i = 0; i < 60; i++) {
            due.is("put again " + i, x.put(59 - i), true);
        }
        due.is("again the sixty-first", x.put(0), false);
        due.is("none such", x.replay(20, 0), NONE);
        due.is("full as before", x.put(0), false);
        due.is("replay again", x.replay(Wide.ONE, 0), 1);
        due.numbersAre("replay again", x, 59);
    }

    private static void noChoiceThere() {
        due.by("Promise 9: NONE if there is none");
        PropertyShrink x = Wide.of(0, 0);
        x.property(3, 0, 0);
        int[] far = {-1, 60, 61, FEWEST, MOST};
        due.is("no row: choice(0)", x.choice(0), NONE);
        for (int i : far) {
            due.is("no row: choice(" + i + ")", x.choice(i), NONE);
        }
        x.put(0);
        x.replay(0, 0);
        due.is("replay gives no row: choice(0)", x.choice(0), NONE);
        x.check(Wide.SIXTY, 0, 0, 1);
        due.is("sixty: choice(0)", x.choice(0), 0);
        due.is("sixty: choice(59)", x.choice(59), 0);
        for (int i : far) {
            due.is("sixty: choice(" + i + ")", x.choice(i), NONE);
        }
        x.check(Wide.ONE, 0, 0, 1);
        due.is("one: choice(0)", x.choice(0), 0);
        due.is("one: choice(1), where one was", x.choice(1), NONE);
        due.is("one: choice(59), where one was", x.choice(59), NONE);
    }

    private static void noneForAnotherWhat() {
        due.by("Promise 10: NONE for another what");
        for (PropertyShrink x : new PropertyShrink[] {new PropertyShrink(), leastSix()}) {
            for (int what : new int[] {-1, 4, 5, FEWEST, MOST}) {
                due.is("size(" + what + ")", x.size(what), NONE);
            }
        }
    }

    private static void sizesOfNothing() {
        due.by("Promise 10: of a new object");
        PropertyShrink x = new PropertyShrink();
        for (int what = 0; what <= 3; what++) {
            due.is("size(" + what + ")", x.size(what), 0);
        }
    }

    private static void sizesOfFull() {
        due.by("Promise 10: How many CHOICES, NUMBERS, ROWS are KEPT");
        PropertyShrink x = Wide.of(0, 0);
        x.property(3, 0, 0);
        x.check(Wide.SIXTY, 0, 0, 1);
        due.is("sixty: size(0)", x.size(0), 60);
        due.is("sixty: size(1)", x.size(1), 60);
        x.check(Wide.FIFTY_NINE, 0, 0, 1);
        due.is("fifty-nine: size(0)", x.size(0), 59);
        due.is("fifty-nine: size(1)", x.size(1), 59);
        due.is("size(2)", x.size(2), 2);
        PropertyShrink y = new PropertyShrink();
        for (int i = 0; i < 20; i++) {
            y.generator(INT, i, i);
            y.property(3, 0, 0);
        }
        for (int i = 0; i < 200; i++) {
            due.is("check " + i, y.check(i / 10, i % 10, 0, 1), FOUND);
            due.is("kept behind " + i, y.size(2), i + 1);
        }
        due.is("the first again", y.check(0, 0, 0, 1), FOUND);
        due.is("all are kept", y.size(2), 200);
    }

    private static void wastesOfTheLatestCheck() {
        due.by("Promise 10: WASTES the latest check had");
        PropertyShrink x = failing();
        x.property(3, 0, 2);
        x.property(0, 9, 0);
        due.is("new", x.size(3), 0);
        x.check(0, 1, 0, 60);
        due.is("too few", x.size(3), 61);
        x.check(0, 2, 0, 60);
        due.is("none", x.size(3), 0);
        x.check(0, 1, 0, 1);
        due.is("too few again", x.size(3), 2);
        x.check(0, 0, 0, 1);
        due.is("found by a try", x.size(3), 0);
        x.check(0, 1, 0, 1);
        x.check(0, 0, 0, 1);
        due.is("found among the kept", x.size(3), 0);
        x.check(0, 1, 0, 1);
        x.check(0, 3, 0, 1);
        due.is("none such leaves them", x.size(3), 2);
    }

    private static void noNumberThere() {
        due.by("Promise 11: 0 if there is none");
        PropertyShrink x = Wide.of(5, 5);
        x.property(3, 0, 0);
        int[] far = {-1, 60, 61, FEWEST, MOST};
        due.is("none at all: number(0)", x.number(0), 0);
        x.check(Wide.SIXTY, 0, 0, 1);
        due.is("sixty: number(0)", x.number(0), 5);
        due.is("sixty: number(59)", x.number(59), 5);
        for (int i : far) {
            due.is("sixty: number(" + i + ")", x.number(i), 0);
        }
        due.is("replay", Due.replayOf(x, 0, 0, 0), 1);
        due.is("one: number(0)", x.number(0), 5);
        due.is("one: number(1), where one was", x.number(1), 0);
        due.is("ill", x.replay(0, 0), 4);
        due.is("none: number(0), where one was", x.number(0), 0);
    }

    private static void numbersOfTheLatest() {
        due.by("Promise 11: of the latest check that FOUND one or shrink, or of the latest replay");
        PropertyShrink x = new PropertyShrink();
        x.generator(INT, 7, 8);
        x.generator(INT, 0, 9);
        x.property(3, 0, 0);
        x.property(0, 9, 0);
        x.property(3, 0, 2);
        x.check(0, 0, 1, 1);
        due.numbersAre("found", x, 7 + x.choice(0));
        x.shrink(400);
        due.numbersAre("shrunk", x, 7);
        due.is("replay", Due.replayOf(x, 1, 0, 4), 1);
        due.numbersAre("replayed", x, 4);
        due.is("passes", x.check(1, 1, 1, 9), 9);
        due.is("too few", x.check(1, 2, 1, 9), TOO_FEW);
        due.is("all", x.all(1, 9), 9);
        due.is("refused shrink", x.shrink(401), NONE);
        due.is("refused replay", x.replay(2, 0), NONE);
        due.numbersAre("the replay's still", x, 4);
        due.is("shrink(0)", x.shrink(0), 0);
        due.numbersAre("the row's", x, 7);
        due.is("replay", Due.replayOf(x, 1, 0, 4), 1);
        due.is("found again", x.check(0, 0, 1, 1), FOUND);
        due.numbersAre("the row's again", x, 7 + x.choice(0));
    }

    private static void mostFromOneToTwoHundred() {
        due.by("Promise 12: - 1 if most isn't so (1 .. 200)");
        PropertyShrink x = new PropertyShrink();
        x.generator(INT, 0, 1000);
        for (int most : new int[] {0, -1, 201, 202, FEWEST, MOST}) {
            due.is("all(0, " + most + ")", x.all(0, most), -1);
        }
        due.is("all(0, 1)", x.all(0, 1), 1);
        due.is("all(0, 200)", x.all(0, 200), 200);
    }

    private static void noneSuchToGoThrough() {
        due.by("Promise 12: - 1 if there is none such");
        PropertyShrink x = failing();
        for (int g : new int[] {-1, 1, 19, 20, FEWEST, MOST}) {
            due.is("all(" + g + ", 1)", x.all(g, 1), -1);
        }
        due.is("all(0, 200)", x.all(0, 200), 10);
    }

    private static long sumOf(int[]... rows) {
        long sum = 0;
        for (int[] row : rows) {
            for (int number : row) {
                sum = 31 * sum + number;
            }
            sum = 31 * sum + 7;
        }
        return sum;
    }

    private static int[] row(int... numbers) {
        return numbers;
    }

    private static void upToMost() {
        due.by("Promise 12: how many there are, up to most");
        PropertyShrink x = new PropertyShrink();
        x.generator(INT, 4, 6);
        int[][] rows = {row(4), row(5), row(6)};
        for (int most = 1; most <= 5; most++) {
            int want = Math.min(3, most);
            due.is("all(0, " + most + ")", x.all(0, most), want);
            due.is("sum up to " + most, x.sum(), sumOf(Arrays.copyOf(rows, want)));
        }
        int[] highs = {198, 199, 200};
        for (int i = 0; i < highs.length; i++) {
            x.generator(INT, 0, highs[i]);
            due.is("of " + (highs[i] + 1), x.all(i + 1, 200), Math.min(200, highs[i] + 1));
        }
    }

    private static void nothingBeingLeftOut() {
        due.by("Promise 12: all ROWS by which it can be REPLAYED, nothing being left out");
        PropertyShrink x = new PropertyShrink();
        x.generator(INT, 1, 2);
        x.generator(LIST, 0, 0);
        due.is("the empty row alone", x.all(1, 200), 1);
        due.is("the empty row alone, sum", x.sum(), 7);
        x.generator(LIST, 0, 1);
        due.is("none or one", x.all(2, 200), 3);
        due.is("none or one, sum", x.sum(), sumOf(row(), row(1), row(2)));
        x.generator(ONE_OF, 1, 0);
        due.is("nothing or one", x.all(3, 200), 3);
        due.is("nothing or one, sum", x.sum(), sumOf(row(), row(1), row(2)));
        x.generator(LIST, 1, 9);
        due.is("nothing, none to nine times", x.all(4, 200), 10);
    }

    private static void inRisingOrder() {
        due.by("Promise 12: in rising order (by the first CHOICE that differs)");
        PropertyShrink x = new PropertyShrink();
        x.generator(INT, -1, 0);
        x.generator(LIST, 0, 2);
        due.is("list", x.all(1, 200), 7);
        due.is("list, sum", x.sum(), sumOf(row(), row(-1), row(-1, -1), row(-1, 0), row(0), row(0, -1), row(0, 0)));
        x.generator(PAIR, 0, 0);
        due.is("pair", x.all(2, 3), 3);
        due.is("pair, sum", x.sum(), sumOf(row(-1, -1), row(-1, 0), row(0, -1)));
    }

    private static void illOnesDoNotCount() {
        due.by("Promise 12: Those that are ILL don't count, but are passed");
        PropertyShrink x = new PropertyShrink();
        x.generator(INT, 1, 2);
        x.generator(KEEP, 0, 0);
        // 1 1 1 is ILL; 1 1 2, 1 2 and 2 are well.
        due.is("even", x.all(1, 200), 3);
        due.is("even, sum", x.sum(), sumOf(row(2), row(2), row(2)));
        due.is("even, the first alone", x.all(1, 1), 1);
        due.is("even, the first alone, sum", x.sum(), sumOf(row(2)));
        x.generator(INT, 1, 1);
        x.generator(KEEP, 2, 0);
        due.is("all are ill", x.all(3, 200), 0);
        due.is("all are ill, sum", x.sum(), 0);
        x.generator(PAIR, 3, 0);
        x.generator(ONE_OF, 4, 0);
        due.is("ill ones first", x.all(5, 200), 2);
        due.is("ill ones first, sum", x.sum(), sumOf(row(1), row(2)));
        x.generator(ONE_OF, 0, 4);
        due.is("ill ones last", x.all(6, 200), 2);
    }

    /** So many ILL rows, then two that are well. */
    private static void atMostTwoThousand() {
        due.by("Promise 12: at most 2000 are looked at");
        int[][] illAndWell = {{1997, 2}, {1998, 2}, {1999, 1}, {2000, 0}, {2001, 0}};
        for (int[] i : illAndWell) {
            PropertyShrink x = new PropertyShrink();
            x.generator(INT, 0, 999);
            x.generator(INT, 0, i[0] - 1001);
            x.generator(ONE_OF, 0, 1);
            x.generator(LIST, 0, 0);
            x.generator(KEEP, 3, 1);
            x.generator(PAIR, 2, 4);
            x.generator(INT, 4, 5);
            x.generator(ONE_OF, 5, 6);
            due.is(i[0] + " ill ones before", x.all(7, 200), i[1]);
            due.is(i[0] + " ill ones before, sum", x.sum(), sumOf(Arrays.copyOf(new int[][] {row(4), row(5)}, i[1])));
        }
    }

    private static void allOfRowsOfSixty() {
        due.by("Promise 12: a ROW has at most 60 CHOICES");
        PropertyShrink x = Wide.of(2, 2);
        int[] twos = new int[60];
        Arrays.fill(twos, 2);
        due.is("sixty", x.all(Wide.SIXTY, 200), 1);
        due.is("sixty, sum", x.sum(), sumOf(twos));
        due.is("sixty-one", x.all(Wide.SIXTY_ONE, 200), 0);
        due.is("sixty-one, sum", x.sum(), 0);
        PropertyShrink y = Wide.of(0, 1);
        due.is("sixty bits", y.all(Wide.SIXTY, 200), 200);
        due.is("sixty-one bits", y.all(Wide.SIXTY_ONE, 200), 0);
    }

    private static void zeroBefore() {
        due.by("Promise 13: 0 before");
        PropertyShrink x = failing();
        due.is("new", x.sum(), 0);
        x.check(0, 0, 0, 1);
        x.shrink(400);
        Due.replayOf(x, 0, 0, 5);
        due.is("all(1, 1)", x.all(1, 1), -1);
        due.is("all(0, 0)", x.all(0, 0), -1);
        due.is("behind other calls", x.sum(), 0);
    }

    private static void zeroAtFirst() {
        due.by("Promise 12: SUM is 0 at first");
        PropertyShrink x = failing();
        for (int i = 0; i < 3; i++) {
            due.is("all", x.all(0, 2), 2);
            due.is("each all begins anew", x.sum(), sumOf(row(0), row(1)));
        }
    }

    private static void sumWraps() {
        due.by("Promise 12: SUM modulo 2 to the 64");
        PropertyShrink x = new PropertyShrink();
        x.generator(INT, 1000, 1000);
        x.generator(INT, -1000, -801);
        x.generator(PAIR, 1, 0);
        BigInteger sum = BigInteger.ZERO;
        BigInteger factor = BigInteger.valueOf(31);
        for (int i = 0; i < 200; i++) {
            sum = sum.multiply(factor).add(BigInteger.valueOf(i - 1000));
            sum = sum.multiply(factor).add(BigInteger.valueOf(1000));
            sum = sum.multiply(factor).add(BigInteger.valueOf(7));
        }
        due.is("all", x.all(2, 200), 200);
        due.is("sum", x.sum(), sum.longValue());
    }

    private static void notOfARefusedAll() {
        due.by("Promise 13: SUM of the latest all that wasn't - 1");
        PropertyShrink x = failing();
        x.generator(INT, 1, 1);
        x.generator(KEEP, 1, 0);
        due.is("all(1, 1)", x.all(1, 1), 1);
        int[][] wrong = {{3, 1}, {-1, 1}, {1, 0}, {1, 201}};
        for (int[] w : wrong) {
            due.is("all(" + w[0] + ", " + w[1] + ")", x.all(w[0], w[1]), -1);
            due.is("sum stays", x.sum(), 31 + 7);
        }
        due.is("all(2, 1), all of which is ILL", x.all(2, 1), 0);
        due.is("sum of no row", x.sum(), 0);
    }

    /** The most that one object is used for: 20 generators, 10 properties, 200 rows of sixty kept. */
    private static void allFiveHundredAndTwelveCalls() {
        due.by("An object is used for at most 512 calls");
        PropertyShrink x = Wide.of(0, 1);
        int made = Wide.COUNT;
        while (made < 20) {
            due.is("generator", x.generator(ADD, Wide.SIXTY, made), made);
            made++;
        }
        for (int i = 0; i < 10; i++) {
            due.is("property", x.property(3, i % 2, 0), i);
        }
        int kept = 0;
        for (int call = 30; call < 510; call++) {
            int g = (call - 30) / 10 % 20;
            int answer = x.check(g, call % 10, call, 60);
            due.is("check", answer, g == Wide.SIXTY_ONE ? TOO_FEW : FOUND);
            kept += answer == FOUND && call < 230 ? 1 : 0;
        }
        due.is("call 511", x.size(2), kept);
        due.is("call 512", x.shrink(400) >= 0, true);
    }
}
