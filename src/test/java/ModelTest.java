import java.util.Random;

/** All promises: runs of 512 calls, chosen by fixed seeds, on the class and on the model side by side. */
public final class ModelTest {
    private static final int RUNS = 400;
    private static final int CALLS = 512;
    private static final Due due = new Due();
    private static final int[] ODD_INTS = {
        Integer.MIN_VALUE, -1001, -1000, -1, 0, 1, 2, 9, 10, 11, 20, 59, 60, 61, 200, 201, 400, 401, 1000, 1001,
        Integer.MAX_VALUE,
    };

    private final Random random;
    private final int run;
    private final PropertyShrink x = new PropertyShrink();
    private final Model model = new Model();
    private int gens;
    private int props;

    private ModelTest(int run) {
        this.run = run;
        this.random = new Random(run);
    }

    public static void main(String[] args) {
        for (int run = 0; run < RUNS; run++) {
            new ModelTest(run).go();
        }
        due.end();
    }

    private void go() {
        int building = 8 + random.nextInt(30);
        for (int call = 0; call < CALLS; call++) {
            boolean build = call < building || random.nextInt(40) == 0;
            if (build && random.nextInt(3) > 0) {
                makeGenerator();
            } else if (build) {
                makeProperty();
            } else {
                use();
            }
        }
        tellAll();
    }

    private int below(int bound) {
        return random.nextInt(Math.max(1, bound));
    }

    private int odd() {
        return ODD_INTS[below(ODD_INTS.length)];
    }

    private boolean seldom() {
        return random.nextInt(25) == 0;
    }

    private void makeGenerator() {
        int kind = seldom() ? odd() : below(6);
        int a = below(gens);
        int b = below(gens);
        if (kind == 0) {
            a = below(41) - 20;
            b = a + below(random.nextInt(4) == 0 ? 200 : 6);
        } else if (kind == 1) {
            b = random.nextBoolean() ? 9 : below(10);
        } else if (kind == 4) {
            b = below(2);
        } else if (kind == 5) {
            b = below(21) - 10;
        }
        if (seldom()) {
            a = odd();
        }
        if (seldom()) {
            b = odd();
        }
        int want = model.generator(kind, a, b);
        gens = Math.max(gens, want + 1);
        due.is(run + ": generator(" + kind + ", " + a + ", " + b + ")", x.generator(kind, a, b), want);
    }

    private void makeProperty() {
        int kind = seldom() ? odd() : below(5);
        int k = seldom() ? odd() : kind == 3 ? below(8) : below(30) - 5;
        int least = seldom() ? odd() : random.nextBoolean() ? 0 : below(5);
        int want = model.property(kind, k, least);
        props = Math.max(props, want + 1);
        due.is(run + ": property(" + kind + ", " + k + ", " + least + ")", x.property(kind, k, least), want);
    }

    private int someGenerator() {
        return seldom() ? odd() : below(gens);
    }

    private int someProperty() {
        return seldom() ? odd() : below(props);
    }

    private void use() {
        switch (below(10)) {
            case 0, 1 -> check();
            case 2, 3 -> shrink();
            case 4, 5 -> putAndReplay();
            case 6 -> all();
            default -> tell();
        }
    }

    private void check() {
        int g = someGenerator();
        int p = someProperty();
        long seed = random.nextBoolean() ? random.nextLong() : below(100);
        int runs = seldom() ? odd() : 1 + below(60);
        due.is(run + ": check(" + g + ", " + p + ", " + seed + ", " + runs + ")",
            x.check(g, p, seed, runs), model.check(g, p, seed, runs));
        tellAll();
    }

    private void shrink() {
        int tries = seldom() ? odd() : random.nextBoolean() ? below(60) : below(401);
        due.is(run + ": shrink(" + tries + ")", x.shrink(tries), model.shrink(tries));
        tellAll();
    }

    private void putAndReplay() {
        int g = someGenerator();
        int p = someProperty();
        int puts = random.nextInt(10) == 0 ? 62 : below(25);
        for (int i = 0; i < puts; i++) {
            int choice = seldom() ? odd() : random.nextInt(4) > 0 ? below(2) : below(6);
            due.is(run + ": put(" + choice + ")", x.put(choice), model.put(choice));
        }
        due.is(run + ": replay(" + g + ", " + p + ")", x.replay(g, p), model.replay(g, p));
        tellAll();
    }

    private void all() {
        int g = someGenerator();
        int most = seldom() ? odd() : 1 + below(200);
        due.is(run + ": all(" + g + ", " + most + ")", x.all(g, most), model.all(g, most));
        tellAll();
    }

    private void tell() {
        int i = odd();
        due.is(run + ": choice(" + i + ")", x.choice(i), model.choice(i));
        due.is(run + ": number(" + i + ")", x.number(i), model.number(i));
        due.is(run + ": size(" + i + ")", x.size(i), model.size(i));
    }

    private void tellAll() {
        for (int what = -1; what <= 4; what++) {
            due.is(run + ": size(" + what + ")", x.size(what), model.size(what));
        }
        for (int i = -1; i <= model.size(0); i++) {
            due.is(run + ": choice(" + i + ")", x.choice(i), model.choice(i));
        }
        for (int i = -1; i <= model.size(1); i++) {
            due.is(run + ": number(" + i + ")", x.number(i), model.number(i));
        }
        due.is(run + ": least()", x.least(), model.least());
        due.is(run + ": sum()", x.sum(), model.sum());
    }
}
