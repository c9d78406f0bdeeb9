/** Promises 7 and 8: replay and put. */
public final class ReplayTest {
    private static final int NONE = PropertyShrink.NONE;
    private static final Due due = new Due();

    public static void main(String[] args) {
        answers();
        whatWasPutStaysOrGoes();
        theRowStays();
        atMostSixty();
        due.end();
    }

    private static void answers() {
        PropertyShrink x = new PropertyShrink();
        x.generator(0, 0, 9);
        x.generator(1, 0, 3);
        x.property(1, 7, 1);
        x.property(4, 7, 0);
        due.is("passes", Due.replayOf(x, 1, 0, 1, 6, 0), 0);
        due.is("fails", Due.replayOf(x, 1, 0, 1, 7, 0), 1);
        due.is("thrown", Due.replayOf(x, 1, 1, 1, 7, 0), 2);
        due.is("discarded", Due.replayOf(x, 1, 0, 0), 3);
        due.is("ill", Due.replayOf(x, 1, 0, 1, 10, 0), 4);
        due.numbersAre("ill", x);
        due.is("ill with numbers before", Due.replayOf(x, 1, 0, 1, 7, 1, 10, 0), 4);
        due.numbersAre("ill with numbers before", x);
        due.is("left out: no harm", Due.replayOf(x, 0, 0, 3, Integer.MAX_VALUE), 0);
        due.numbersAre("left out", x, 3);
        x.property(0, 0, 9);
        due.is("discarded with numbers", Due.replayOf(x, 1, 2, 1, 7, 1, 8, 0), 3);
        due.numbersAre("discarded with numbers", x, 7, 8);
        due.is("nothing is kept", x.size(2), 0);
        due.is("no row is found", x.shrink(1), NONE);
    }

    private static void whatWasPutStaysOrGoes() {
        PropertyShrink x = new PropertyShrink();
        x.generator(0, 0, 9);
        x.property(1, 7, 0);
        x.put(7);
        due.is("generator -1", x.replay(-1, 0), NONE);
        due.is("generator 1", x.replay(1, 0), NONE);
        due.is("property -1", x.replay(0, -1), NONE);
        due.is("property 1", x.replay(0, 1), NONE);
        due.is("far off", x.replay(Integer.MAX_VALUE, Integer.MIN_VALUE), NONE);
        due.numbersAre("none such", x);
        due.is("it stayed", x.replay(0, 0), 1);
        due.numbersAre("it stayed", x, 7);
        due.is("none such", x.replay(1, 0), NONE);
        due.numbersAre("none such changes nothing", x, 7);
        due.is("it went", x.replay(0, 0), 4);
        due.numbersAre("it went", x);
        x.put(10);
        due.is("ill", x.replay(0, 0), 4);
        x.put(6);
        due.is("behind ill it went too", x.replay(0, 0), 0);
        x.put(7);
        x.all(0, 200);
        x.check(0, 0, 5, 20);
        x.shrink(20);
        due.is("other calls leave it", x.replay(0, 0), 1);
    }

    private static void theRowStays() {
        PropertyShrink x = new PropertyShrink();
        x.generator(0, 3, 3);
        x.generator(0, 0, 9);
        x.property(3, 0, 0);
        due.is("check", x.check(0, 0, 0, 1), -1);
        due.rowIs("found", x, 0);
        due.numbersAre("found", x, 3);
        due.is("replay", Due.replayOf(x, 1, 0, 8), 1);
        due.rowIs("replayed", x, 0);
        due.numbersAre("replayed", x, 8);
        due.is("kept", x.size(2), 1);
        due.is("shrink goes on with the row", x.shrink(400), 0);
        due.numbersAre("shrunk", x, 3);
    }

    private static void atMostSixty() {
        PropertyShrink x = new PropertyShrink();
        x.generator(0, 0, 1);
        x.generator(1, 0, 9);
        x.property(3, 0, 0);
        due.is("put(-1)", x.put(-1), false);
        due.is("put(least int)", x.put(Integer.MIN_VALUE), false);
        due.is("nothing was put", x.replay(0, 0), 4);
        for (int i = 0; i < 60; i++) {
            due.is("put " + i, x.put(i == 0 ? 0 : Integer.MAX_VALUE), true);
        }
        due.is("the sixty-first", x.put(0), false);
        due.is("the sixty-second", x.put(0), false);
        due.is("replay", x.replay(0, 0), 1);
        due.numbersAre("replay", x, 0);
        due.is("again there is room", x.put(1), true);
        due.is("replay again", x.replay(0, 0), 1);
        due.numbersAre("replay again", x, 1);
        for (int i = 0; i < 60; i++) {
            x.put(1);
        }
        x.put(-5);
        due.is("all of a list", x.replay(1, 0), 1);
        due.numbersAre("all of a list", x, 1, 1, 1, 1, 1, 1, 1, 1, 1);
    }
}
