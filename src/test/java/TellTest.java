/** Promises 9, 10 and 11: choice, size and number. */
public final class TellTest {
    private static final Due due = new Due();

    public static void main(String[] args) {
        PropertyShrink x = new PropertyShrink();
        x.generator(0, 20, 20);
        x.generator(2, 0, 0);
        x.generator(3, 1, 1);
        x.property(3, 2, 0);
        x.property(3, 2, 3);
        otherWhats(x);
        due.is("found", x.check(2, 0, 1, 5), -1);
        int side = x.choice(0);
        due.is("a side", side == 0 || side == 1, true);
        due.rowIs("found", x, side, 0, 0);
        due.numbersAre("found", x, 20, 20);
        far(x);
        due.is("kept", x.size(2), 1);
        due.is("wastes", x.size(3), 0);
        due.is("too few", x.check(2, 1, 1, 5), -2);
        due.is("wastes", x.size(3), 6);
        due.is("replay", Due.replayOf(x, 0, 0, 0), 0);
        due.is("wastes stay", x.size(3), 6);
        due.numbersAre("replayed", x, 20);
        due.rowIs("the row stays", x, side, 0, 0);
        due.is("found again", x.check(2, 0, 1, 5), -1);
        due.numbersAre("found again", x, 20, 20);
        due.is("wastes of the latest", x.size(3), 0);
        x.check(2, 1, 1, 5);
        due.is("wastes", x.size(3), 6);
        x.shrink(400);
        due.is("shrink leaves the wastes", x.size(3), 6);
        due.rowIs("shrunk", x, 0, 0, 0);
        due.is("still one is kept", x.size(2), 1);
        otherWhats(x);
        due.end();
    }

    private static void otherWhats(PropertyShrink x) {
        for (int what : new int[] {-1, 4, 5, Integer.MIN_VALUE, Integer.MAX_VALUE}) {
            due.is("size(" + what + ")", x.size(what), PropertyShrink.NONE);
        }
    }

    private static void far(PropertyShrink x) {
        for (int i : new int[] {-1, 3, 59, 60, 61, Integer.MIN_VALUE, Integer.MAX_VALUE}) {
            due.is("choice(" + i + ")", x.choice(i), PropertyShrink.NONE);
            due.is("number(" + i + ")", x.number(i), 0);
        }
    }
}
