import java.util.function.Supplier;

/** Promises 5 and 6: shrink and least. Each run is reckoned by hand, step by step. */
public final class ShrinkTest {
    private static final int NONE = PropertyShrink.NONE;
    private static final Due due = new Due();

    public static void main(String[] args) {
        wrongOnes();
        triesOfAPair();
        lowering();
        loweringByOne();
        swapping();
        swappingInThrees();
        dropping();
        dropsOfEightAndFour();
        leftOut();
        thrownStaysThrown();
        discardedDoesNotGo();
        emptyRow();
        goesOnWhereItWas();
        numbersAreTheRowsAgain();
        due.end();
    }

    private static PropertyShrink pair(int kind, int k) {
        PropertyShrink x = new PropertyShrink();
        x.generator(0, 0, 9);
        x.generator(2, 0, 0);
        x.property(kind, k, 0);
        return x;
    }

    private static PropertyShrink single(int k) {
        PropertyShrink x = new PropertyShrink();
        x.generator(0, 0, 1000);
        x.property(0, k, 0);
        return x;
    }

    private static PropertyShrink list(int high, int kind, int k, int least) {
        PropertyShrink x = new PropertyShrink();
        x.generator(0, 0, high);
        x.generator(1, 0, 9);
        x.property(kind, k, least);
        return x;
    }

    private static void shrinks(String what, PropertyShrink x, int tries, int got, boolean least, int... row) {
        due.is(what + ": shrink(" + tries + ")", x.shrink(tries), got);
        due.is(what + ": least behind " + tries, x.least(), least);
        due.rowIs(what + " behind " + tries, x, row);
    }

    private static void wrongOnes() {
        PropertyShrink x = pair(3, 0);
        due.is("no row", x.shrink(5), NONE);
        x.check(1, 0, 0, 1);
        due.is("-1", x.shrink(-1), NONE);
        due.is("401", x.shrink(401), NONE);
        due.is("least int", x.shrink(Integer.MIN_VALUE), NONE);
        due.is("greatest int", x.shrink(Integer.MAX_VALUE), NONE);
        due.is("not least", x.least(), false);
        due.is("0", x.shrink(0), 0);
        due.is("400", x.shrink(400) >= 0, true);
    }

    /** [1 1]: three drops are ill, the fourth step lowers. */
    private static void triesOfAPair() {
        Supplier<PropertyShrink> maker = () -> pair(3, 0);
        shrinks("pair", Found.row(maker, 1, 1, 1), 3, 0, false, 1, 1);
        shrinks("pair", Found.row(maker, 1, 1, 1), 4, 1, false, 0, 1);
        shrinks("pair", Found.row(maker, 1, 1, 1), 7, 1, false, 0, 1);
        shrinks("pair", Found.row(maker, 1, 1, 1), 8, 2, false, 0, 0);
        shrinks("pair", Found.row(maker, 1, 1, 1), 11, 2, false, 0, 0);
        shrinks("pair", Found.row(maker, 1, 1, 1), 12, 2, true, 0, 0);
        shrinks("pair", Found.row(maker, 1, 1, 1), 400, 2, true, 0, 0);
    }

    /** [12], to stay above 5: dropped, 0, 6 goes; dropped, 0, 3, 5: none goes. */
    private static void lowering() {
        Supplier<PropertyShrink> maker = () -> single(5);
        shrinks("12", Found.row(maker, 0, 12), 2, 0, false, 12);
        shrinks("12", Found.row(maker, 0, 12), 3, 1, false, 6);
        shrinks("12", Found.row(maker, 0, 12), 7, 1, false, 6);
        shrinks("12", Found.row(maker, 0, 12), 8, 1, true, 6);
        shrinks("13 halves down", Found.row(maker, 0, 13), 3, 1, false, 6);
    }

    /** [11]: dropped, 0, 5, and 10 goes; so on by one. A 2 and a 1 have fewer ways. */
    private static void loweringByOne() {
        Supplier<PropertyShrink> maker = () -> single(5);
        shrinks("11", Found.row(maker, 0, 11), 3, 0, false, 11);
        shrinks("11", Found.row(maker, 0, 11), 4, 1, false, 10);
        shrinks("11", Found.row(maker, 0, 11), 20, 5, false, 6);
        shrinks("11", Found.row(maker, 0, 11), 24, 5, false, 6);
        shrinks("11", Found.row(maker, 0, 11), 25, 5, true, 6);
        // Of a 2: dropped, 0, 1. Of a 1: dropped, 0. Of a 3: dropped, 0, 1, 2.
        shrinks("2", Found.row(() -> single(1), 0, 2), 3, 0, false, 2);
        shrinks("2", Found.row(() -> single(1), 0, 2), 4, 0, true, 2);
        shrinks("1", Found.row(() -> single(0), 0, 1), 2, 0, false, 1);
        shrinks("1", Found.row(() -> single(0), 0, 1), 3, 0, true, 1);
        shrinks("3", Found.row(() -> single(2), 0, 3), 4, 0, false, 3);
        shrinks("3", Found.row(() -> single(2), 0, 3), 5, 0, true, 3);
    }

    /** [3 1], with a 3: three drops, 0 1 2 for the 3, then [3 0] goes; six, then the swap goes. */
    private static void swapping() {
        Supplier<PropertyShrink> maker = () -> pair(1, 3);
        shrinks("3 1", Found.row(maker, 1, 3, 1), 6, 0, false, 3, 1);
        shrinks("3 1", Found.row(maker, 1, 3, 1), 7, 1, false, 3, 0);
        shrinks("3 1", Found.row(maker, 1, 3, 1), 13, 1, false, 3, 0);
        shrinks("3 1", Found.row(maker, 1, 3, 1), 14, 2, false, 0, 3);
        shrinks("3 1", Found.row(maker, 1, 3, 1), 20, 2, false, 0, 3);
        shrinks("3 1", Found.row(maker, 1, 3, 1), 21, 2, true, 0, 3);
        // [2 2], to stay above 3: three drops, two lowerings each; like ones aren't swapped.
        Supplier<PropertyShrink> like = () -> pair(0, 3);
        shrinks("2 2", Found.row(like, 1, 2, 2), 7, 0, false, 2, 2);
        shrinks("2 2", Found.row(like, 1, 2, 2), 8, 0, true, 2, 2);
    }

    private static PropertyShrink three(int second, int k) {
        PropertyShrink x = new PropertyShrink();
        x.generator(0, 0, 9);
        x.generator(0, 0, second);
        x.generator(2, 1, 1);
        x.generator(2, 0, 2);
        x.property(0, k, 0);
        return x;
    }

    private static void swappingInThrees() {
        // [3 2 1], to stay above 5: five drops and six lowerings don't go, each swap does.
        Supplier<PropertyShrink> sums = () -> three(9, 5);
        shrinks("3 2 1", Found.row(sums, 3, 3, 2, 1), 11, 0, false, 3, 2, 1);
        shrinks("3 2 1", Found.row(sums, 3, 3, 2, 1), 12, 1, false, 2, 3, 1);
        shrinks("3 2 1", Found.row(sums, 3, 3, 2, 1), 24, 2, false, 2, 1, 3);
        shrinks("3 2 1", Found.row(sums, 3, 3, 2, 1), 36, 3, false, 1, 2, 3);
        shrinks("3 2 1", Found.row(sums, 3, 3, 2, 1), 47, 3, false, 1, 2, 3);
        shrinks("3 2 1", Found.row(sums, 3, 3, 2, 1), 48, 3, true, 1, 2, 3);
        // [3 1 0], to stay above 3: five drops, four lowerings, and a 3 in the second place is ill.
        Supplier<PropertyShrink> low = () -> three(1, 3);
        shrinks("3 1 0", Found.row(low, 3, 3, 1, 0), 10, 0, false, 3, 1, 0);
        shrinks("3 1 0", Found.row(low, 3, 3, 1, 0), 11, 1, false, 3, 0, 1);
        shrinks("3 1 0", Found.row(low, 3, 3, 1, 0), 21, 1, false, 3, 0, 1);
        shrinks("3 1 0", Found.row(low, 3, 3, 1, 0), 22, 1, true, 3, 0, 1);
    }

    /** [1 0 1 0 0], to have an item: [0] has none, [1] is ill, then the drop of two at 0 goes. */
    private static void dropping() {
        Supplier<PropertyShrink> maker = () -> list(0, 3, 1, 0);
        shrinks("list", Found.row(maker, 1, 1, 0, 1, 0, 0), 2, 0, false, 1, 0, 1, 0, 0);
        shrinks("list", Found.row(maker, 1, 1, 0, 1, 0, 0), 3, 1, false, 1, 0, 0);
        // Then [0], [1], [0 0], [1 0], [1 0], [0 0 0] and the swapped [0 1 0]: none goes.
        shrinks("list", Found.row(maker, 1, 1, 0, 1, 0, 0), 10, 1, false, 1, 0, 0);
        shrinks("list", Found.row(maker, 1, 1, 0, 1, 0, 0), 11, 1, true, 1, 0, 0);
    }

    /** Five items of one value, to have one: the drop of eight from 0, then from 1 and 2, then of four. */
    private static void dropsOfEightAndFour() {
        Supplier<PropertyShrink> maker = () -> list(0, 3, 1, 0);
        int[] five = {1, 0, 1, 0, 1, 0, 1, 0, 1, 0, 0};
        shrinks("five items", Found.row(maker, 1, five), 1, 1, false, 1, 0, 0);
        int[] four = {1, 0, 1, 0, 1, 0, 1, 0, 0};
        // Of nine choices: eight from 0 leave [0], from 1 leave [1]; four from 0 leave two items.
        shrinks("four items", Found.row(maker, 1, four), 2, 0, false, four);
        shrinks("four items", Found.row(maker, 1, four), 3, 1, false, 1, 0, 1, 0, 0);
    }

    /** [1 2 2] is the pair 5 5; with 0 at first it is a 5 alone, and the last choice is left out. */
    private static void leftOut() {
        Supplier<PropertyShrink> maker = () -> {
            PropertyShrink x = new PropertyShrink();
            x.generator(0, 3, 9);
            x.generator(2, 0, 0);
            x.generator(3, 0, 1);
            x.property(1, 5, 0);
            return x;
        };
        shrinks("one of", Found.row(maker, 2, 1, 2, 2), 5, 0, false, 1, 2, 2);
        PropertyShrink x = Found.row(maker, 2, 1, 2, 2);
        shrinks("one of", x, 6, 1, false, 0, 2);
        due.numbersAre("one of", x, 5);
    }

    private static void thrownStaysThrown() {
        Supplier<PropertyShrink> maker = () -> pair(4, 3);
        PropertyShrink x = Found.row(maker, 1, 3, 1);
        shrinks("thrown", x, 20, 2, false, 0, 3);
        due.numbersAre("thrown", x, 0, 3);
        shrinks("thrown", x, 7, 0, true, 0, 3);
    }

    /** Two items are wanted at least: one alone is discarded, though its sum would fail. */
    private static void discardedDoesNotGo() {
        PropertyShrink x = Found.row(() -> list(1, 0, 0, 2), 1, 1, 1, 1, 1, 0);
        due.is("shrinks", x.shrink(400) > 0, true);
        due.is("least", x.least(), true);
        due.rowIs("two items stay", x, 1, 0, 1, 1, 0);
        due.numbersAre("two items stay", x, 0, 1);
    }

    private static void emptyRow() {
        PropertyShrink x = new PropertyShrink();
        x.generator(0, 0, 0);
        x.generator(1, 0, 0);
        x.property(3, 0, 0);
        due.is("found", x.check(1, 0, 0, 1), -1);
        due.rowIs("empty", x);
        shrinks("empty", x, 0, 0, false);
        shrinks("empty", x, 1, 0, true);
    }

    private static void goesOnWhereItWas() {
        PropertyShrink x = Found.row(() -> single(5), 0, 11);
        for (int left = 10; left >= 6; left--) {
            shrinks("by fours", x, 4, 1, false, left);
        }
        shrinks("by fours", x, 4, 0, false, 6);
        shrinks("by fours", x, 5, 0, true, 6);
        shrinks("least stays", x, 0, 0, true, 6);
        shrinks("least stays", x, 2, 0, true, 6);
        due.is("wrong", x.shrink(-1), NONE);
        due.is("least stays", x.least(), true);
        due.is("check", x.check(0, 0, 1, 1), -1);
        due.is("least no more", x.least(), false);
        due.rowIs("as it was kept", x, 11);
    }

    private static void numbersAreTheRowsAgain() {
        PropertyShrink x = Found.row(() -> single(5), 0, 6);
        due.is("replay", Due.replayOf(x, 0, 0, 3), 0);
        due.numbersAre("replayed", x, 3);
        due.is("wrong shrink", x.shrink(401), NONE);
        due.numbersAre("wrong shrink", x, 3);
        due.is("shrink", x.shrink(0), 0);
        due.numbersAre("of the row again", x, 6);
        due.is("ill", x.replay(0, 0), 4);
        due.is("shrink", x.shrink(400), 0);
        due.numbersAre("of the row again", x, 6);
    }
}
