/** Promise 4: check, with the rows that are KEPT, the WASTES, and the sizes and states of its TRIES. */
public final class CheckTest {
    private static final Due due = new Due();

    public static void main(String[] args) {
        noneSuch();
        passes();
        sizesGrow();
        listsAndSidesAreNotSized();
        wastesTakeASizeToo();
        tooFew();
        asManyWastesAsRuns();
        sixtyFirstDrawMovesTheState();
        thirdOfKeepEndsTheTry();
        keptOnesComeFirst();
        eachPairKeepsItsOwn();
        notFoundChangesNoRow();
        due.end();
    }

    private static void noneSuch() {
        PropertyShrink x = new PropertyShrink();
        x.generator(0, 0, 9);
        x.property(3, 0, 0);
        int[][] wrong = {
            {-1, 0, 1}, {1, 0, 1}, {20, 0, 1}, {0, -1, 1}, {0, 1, 1}, {0, 10, 1},
            {0, 0, 0}, {0, 0, -1}, {0, 0, 61}, {0, 0, Integer.MAX_VALUE}, {Integer.MIN_VALUE, 0, 1},
        };
        for (int[] w : wrong) {
            due.is("check " + w[0] + " " + w[1] + " runs " + w[2], x.check(w[0], w[1], 0, w[2]), -3);
        }
        due.is("nothing kept", x.size(2), 0);
        due.rowIs("nothing found", x);
        x.property(3, 0, 2);
        due.is("too few", x.check(0, 1, 0, 4), -2);
        due.is("wastes", x.size(3), 5);
        due.is("none such", x.check(0, 0, 0, 61), -3);
        due.is("wastes stay", x.size(3), 5);
        due.is("found", x.check(0, 0, 0, 60), -1);
        x.shrink(400);
        due.is("least", x.least(), true);
        x.check(0, 0, 0, 0);
        due.is("least stays", x.least(), true);
    }

    private static void passes() {
        PropertyShrink x = new PropertyShrink();
        x.generator(0, 0, 9);
        x.property(0, 9, 0);
        for (int runs : new int[] {1, 2, 59, 60}) {
            due.is("runs " + runs, x.check(0, 0, 42, runs), runs);
            due.is("wastes", x.size(3), 0);
        }
        due.is("nothing kept", x.size(2), 0);
        due.rowIs("no row", x);
        due.numbersAre("no numbers", x);
    }

    private static void sizesGrow() {
        for (int most : new int[] {1, 2, 5, 30, 59, 60, 61, 1000}) {
            for (int i = 0; i < 40; i++) {
                long seed = i * 0x9E3779B97F4A7C15L;
                int wanted = Math.min(most, i % 25);
                int found = -1;
                Seeded s = new Seeded(seed);
                for (int z = 0; z < 60 && found < 0; z++) {
                    if (s.sized(most, z) == wanted) {
                        found = z;
                    }
                }
                PropertyShrink x = new PropertyShrink();
                x.generator(0, 100, 900);
                x.generator(0, -most, 0);
                x.property(1, wanted - most, 0);
                String what = "up to " + most + ", seed " + seed;
                due.is(what, x.check(1, 0, seed, 60), found < 0 ? 60 : -1);
                if (found >= 0) {
                    due.rowIs(what, x, wanted);
                    due.numbersAre(what, x, wanted - most);
                    due.is(what + ", just enough runs", fewer(wanted, most, seed, found + 1), -1);
                    if (found > 0) {
                        due.is(what + ", too few runs", fewer(wanted, most, seed, found), found);
                    }
                }
            }
        }
    }

    private static int fewer(int wanted, int most, long seed, int runs) {
        PropertyShrink x = new PropertyShrink();
        x.generator(0, 0, most);
        x.property(1, wanted, 0);
        return x.check(0, 0, seed, runs);
    }

    private static void listsAndSidesAreNotSized() {
        for (long seed = -20; seed < 20; seed++) {
            PropertyShrink x = new PropertyShrink();
            x.generator(0, 0, 1000);
            x.generator(1, 0, 9);
            x.property(3, 0, 0);
            due.is("list, seed " + seed, x.check(1, 0, seed, 1), -1);
            Seeded s = new Seeded(seed);
            int place = 0;
            for (int item = 0; item < 9; item++) {
                int more = s.upTo(1);
                due.is("list, seed " + seed + ", more", x.choice(place++), more);
                if (more == 0) {
                    break;
                }
                due.is("list, seed " + seed + ", item", x.choice(place++), s.sized(1000, 0));
            }
            due.is("list, seed " + seed + ", length", x.size(0), place);

            PropertyShrink y = new PropertyShrink();
            y.generator(0, 0, 1000);
            y.generator(0, 50, 60);
            y.generator(3, 0, 1);
            y.generator(2, 2, 1);
            y.property(3, 0, 0);
            due.is("one of, seed " + seed, y.check(3, 0, seed, 1), -1);
            Seeded t = new Seeded(seed);
            int side = t.upTo(1);
            int first = t.sized(side == 0 ? 1000 : 10, 0);
            int second = t.sized(10, 0);
            due.rowIs("one of, seed " + seed, y, side, first, second);
            due.numbersAre("one of, seed " + seed, y, side == 0 ? first : 50 + first, 50 + second);
        }
    }

    /** A list of at most one: without an item it is discarded, with a 4 it fails. */
    private static void wastesTakeASizeToo() {
        for (long seed = 100; seed < 160; seed++) {
            PropertyShrink x = new PropertyShrink();
            x.generator(0, 0, 6);
            x.generator(1, 0, 1);
            x.property(1, 4, 1);
            int runs = 10;
            int wastes = 0;
            int passed = 0;
            int answer = 0;
            Seeded s = new Seeded(seed);
            for (int z = 0; answer == 0; z++) {
                if (s.upTo(1) == 0) {
                    wastes++;
                } else if (s.sized(6, z) == 4) {
                    answer = -1;
                } else {
                    passed++;
                }
                if (answer == 0 && wastes > runs) {
                    answer = -2;
                } else if (answer == 0 && passed == runs) {
                    answer = runs;
                }
            }
            due.is("seed " + seed, x.check(1, 0, seed, runs), answer);
            due.is("seed " + seed + ", wastes", x.size(3), wastes);
        }
    }

    private static void tooFew() {
        PropertyShrink x = new PropertyShrink();
        x.generator(0, 0, 9);
        x.property(3, 0, 2);
        x.generator(1, 0, 0);
        x.generator(4, 1, 1);
        for (int runs : new int[] {1, 2, 30, 60}) {
            due.is("discarded", x.check(0, 0, 9, runs), -2);
            due.is("discarded ones", x.size(3), runs + 1);
            due.is("ill", x.check(2, 0, 9, runs), -2);
            due.is("ill ones", x.size(3), runs + 1);
        }
        due.is("nothing kept", x.size(2), 0);
        due.rowIs("no row", x);
    }

    /** One of nothing, discarded, and a number that passes: the seed tells which comes too often first. */
    private static void asManyWastesAsRuns() {
        int equal = 0;
        for (long seed = 0; seed < 200; seed++) {
            PropertyShrink x = new PropertyShrink();
            x.generator(0, 0, 0);
            x.generator(1, 0, 0);
            x.generator(3, 0, 1);
            x.property(3, 2, 1);
            Seeded s = new Seeded(seed);
            int wastes = 0;
            int passed = 0;
            while (wastes <= 3 && passed < 3) {
                if (s.upTo(1) == 0) {
                    s.upTo(0);
                    passed++;
                } else {
                    wastes++;
                }
            }
            equal += passed == 3 && wastes == 3 ? 1 : 0;
            due.is("seed " + seed, x.check(2, 0, seed, 3), passed == 3 ? 3 : -2);
            due.is("seed " + seed + ", wastes", x.size(3), wastes);
        }
        due.is("some had as many wastes as runs", equal > 0, true);
    }

    /** One of sixty-four numbers, which is ill at the sixty-first draw, and a single one. */
    private static void sixtyFirstDrawMovesTheState() {
        for (long seed = 0; seed < 40; seed++) {
            PropertyShrink x = new PropertyShrink();
            x.generator(0, 0, 20);
            for (int i = 0; i < 6; i++) {
                x.generator(2, i, i);
            }
            due.is("one of", x.generator(3, 6, 0), 7);
            x.property(1, 3, 0);
            Seeded s = new Seeded(seed);
            int wastes = 0;
            int passed = 0;
            int answer = 0;
            for (int z = 0; answer == 0; z++) {
                if (s.upTo(1) == 0) {
                    wastes++;
                    for (int draw = 2; draw <= 61; draw++) {
                        s.upTo(0);
                    }
                } else if (s.sized(20, z) == 3) {
                    answer = -1;
                } else {
                    passed++;
                }
                if (answer == 0) {
                    answer = wastes > 20 ? -2 : passed == 20 ? 20 : 0;
                }
            }
            due.is("seed " + seed, x.check(7, 0, seed, 20), answer);
            due.is("seed " + seed + ", wastes", x.size(3), wastes);
        }
    }

    /** A pair of one that must be even and another: behind three odd ones the other isn't drawn. */
    private static void thirdOfKeepEndsTheTry() {
        for (long seed = 0; seed < 60; seed++) {
            PropertyShrink x = new PropertyShrink();
            x.generator(0, 0, 20);
            x.generator(4, 0, 0);
            x.generator(2, 1, 0);
            x.property(1, 5, 0);
            Seeded s = new Seeded(seed);
            int wastes = 0;
            int passed = 0;
            int answer = 0;
            for (int z = 0; answer == 0; z++) {
                boolean even = false;
                for (int round = 0; round < 3 && !even; round++) {
                    even = s.sized(20, z) % 2 == 0;
                }
                if (!even) {
                    wastes++;
                } else if (s.sized(20, z) == 5) {
                    answer = -1;
                } else {
                    passed++;
                }
                if (answer == 0) {
                    answer = wastes > 20 ? -2 : passed == 20 ? 20 : 0;
                }
            }
            due.is("seed " + seed, x.check(2, 0, seed, 20), answer);
            due.is("seed " + seed + ", wastes", x.size(3), wastes);
        }
    }

    private static void keptOnesComeFirst() {
        PropertyShrink x = new PropertyShrink();
        x.generator(0, 0, 50);
        x.generator(1, 0, 9);
        x.property(0, 5, 1);
        due.is("found", x.check(1, 0, 11, 60), -1);
        int[] found = Found.rowOf(x);
        int sum = 0;
        for (int i = 0; i < x.size(1); i++) {
            sum += x.number(i);
        }
        due.is("its sum is above 5", sum > 5, true);
        due.is("kept", x.size(2), 1);
        due.is("shrinks", x.shrink(400) > 0, true);
        due.is("least", x.least(), true);
        due.is("kept as it was found", x.size(2), 1);
        due.is("found again", x.check(1, 0, 999, 1), -1);
        due.rowIs("found again", x, found);
        due.is("not least", x.least(), false);
        due.is("not kept again", x.size(2), 1);
        due.is("no wastes", x.size(3), 0);
        due.is("found by another seed", x.check(0, 0, 3, 60), -1);
        due.is("kept too", x.size(2), 2);
        due.is("the first once more", x.check(1, 0, -5, 2), -1);
        due.rowIs("the first once more", x, found);
        due.is("two are kept", x.size(2), 2);
    }

    private static void eachPairKeepsItsOwn() {
        PropertyShrink x = new PropertyShrink();
        for (int g = 0; g < 20; g++) {
            x.generator(0, g, g);
        }
        for (int p = 0; p < 10; p++) {
            x.property(p % 2 == 0 ? 3 : 1, p % 2 == 0 ? 0 : 5, 0);
        }
        int kept = 0;
        for (int g = 0; g < 20; g++) {
            for (int p = 0; p < 10; p++) {
                boolean fails = p % 2 == 0 || g == 5;
                kept += fails ? 1 : 0;
                due.is("check " + g + " " + p, x.check(g, p, 77, 2), fails ? -1 : 2);
                due.is("kept behind " + g + " " + p, x.size(2), kept);
            }
        }
        due.is("again", x.check(0, 0, 78, 2), -1);
        due.numbersAre("again", x, 0);
        due.is("passing still passes", x.check(0, 1, 78, 2), 2);
        due.is("all kept", x.size(2), kept);
    }

    private static void notFoundChangesNoRow() {
        PropertyShrink x = new PropertyShrink();
        x.generator(0, 7, 7);
        x.generator(0, 0, 3);
        x.property(1, 7, 0);
        x.property(1, 7, 2);
        x.check(0, 0, 0, 5);
        x.shrink(400);
        due.is("passes", x.check(1, 0, 0, 5), 5);
        due.is("too few", x.check(1, 1, 0, 5), -2);
        due.rowIs("behind", x, 0);
        due.numbersAre("behind", x, 7);
        due.is("least", x.least(), true);
        due.is("wastes", x.size(3), 6);
        due.is("passes", x.check(1, 0, 0, 5), 5);
        due.is("no wastes", x.size(3), 0);
    }
}
