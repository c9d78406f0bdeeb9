/** Compares answers with those that are due, and ends the program by what it has seen. */
final class Due {
    private int asked;
    private int wrong;
    private String sentence = "";

    /** What is looked at from here on is due by this sentence of the document. */
    void by(String newSentence) {
        sentence = "'" + newSentence + "': ";
    }

    void is(String call, long got, long want) {
        asked++;
        if (got != want) {
            wrong++;
            System.out.println(sentence + call + " answered " + got + ", due is " + want);
        }
    }

    void is(String call, boolean got, boolean want) {
        is(call, got ? 1 : 0, want ? 1 : 0);
    }

    void end() {
        System.out.println(asked + " answers looked at, " + wrong + " wrong");
        if (wrong != 0 || asked == 0) {
            System.exit(1);
        }
    }

    /** The NUMBERS, as number and size tell them. */
    void numbersAre(String when, PropertyShrink x, int... want) {
        is(when + ": size(1)", x.size(1), want.length);
        for (int i = 0; i < want.length; i++) {
            is(when + ": number(" + i + ")", x.number(i), want[i]);
        }
        is(when + ": number(-1)", x.number(-1), 0);
        is(when + ": number(" + want.length + ")", x.number(want.length), 0);
    }

    /** The ROW, as choice and size tell it. */
    void rowIs(String when, PropertyShrink x, int... want) {
        is(when + ": size(0)", x.size(0), want.length);
        for (int i = 0; i < want.length; i++) {
            is(when + ": choice(" + i + ")", x.choice(i), want[i]);
        }
        is(when + ": choice(-1)", x.choice(-1), PropertyShrink.NONE);
        is(when + ": choice(" + want.length + ")", x.choice(want.length), PropertyShrink.NONE);
    }

    /** Puts the choices and replays them. */
    static int replayOf(PropertyShrink x, int generator, int property, int... choices) {
        for (int choice : choices) {
            if (!x.put(choice)) {
                throw new IllegalStateException("put(" + choice + ") answered false");
            }
        }
        return x.replay(generator, property);
    }
}
