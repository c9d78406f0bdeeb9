import java.util.ArrayList;
import java.util.List;

/** The document once more, as plainly as can be and in other ways than the class, for comparison. */
final class Model {
    private record Gen(int kind, int a, int b, int deep) { }

    private record Prop(int kind, int k, int least) { }

    private record Kept(int generator, int property, List<Integer> row) { }

    private static final class Ill extends RuntimeException {
        private static final long serialVersionUID = 1L;
    }

    /** A row is at its end, and a choice up to m is asked for. */
    private static final class Ends extends RuntimeException {
        private static final long serialVersionUID = 1L;
        final int m;

        Ends(int m) {
            this.m = m;
        }
    }

    private interface Source {
        int draw(int m, boolean sized);
    }

    private final List<Gen> gens = new ArrayList<>();
    private final List<Prop> props = new ArrayList<>();
    private final List<Kept> kepts = new ArrayList<>();
    private final List<Integer> puts = new ArrayList<>();
    private List<Integer> row;
    private List<Integer> numbers = new ArrayList<>();
    private int rowGenerator;
    private int rowProperty;
    private boolean least;
    private int wastes;
    private long sum;

    private static boolean in(int x, int low, int high) {
        return low <= x && x <= high;
    }

    int generator(int kind, int a, int b) {
        boolean hasA = in(a, 0, gens.size() - 1);
        boolean hasB = in(b, 0, gens.size() - 1);
        boolean right = switch (kind) {
            case 0 -> in(a, -1000, 1000) && in(b, -1000, 1000) && a <= b;
            case 1 -> hasA && in(b, 0, 9);
            case 2, 3 -> hasA && hasB;
            case 4 -> hasA && in(b, 0, 1);
            case 5 -> hasA && in(b, -1000, 1000);
            default -> false;
        };
        if (!right || gens.size() == 20) {
            return -1;
        }
        int deep = 1;
        if (kind != 0) {
            deep = 1 + gens.get(a).deep;
        }
        if (kind == 2 || kind == 3) {
            deep = Math.max(deep, 1 + gens.get(b).deep);
        }
        if (deep > 8) {
            return -1;
        }
        gens.add(new Gen(kind, a, b, deep));
        return gens.size() - 1;
    }

    int property(int kind, int k, int leastOf) {
        if (props.size() == 10 || !in(kind, 0, 4) || !in(leastOf, 0, 10)) {
            return -1;
        }
        props.add(new Prop(kind, k, leastOf));
        return props.size() - 1;
    }

    private List<Integer> numbersOf(int generator, Source source) {
        Gen g = gens.get(generator);
        List<Integer> all = new ArrayList<>();
        switch (g.kind) {
            case 0 -> all.add(g.a + source.draw(g.b - g.a, true));
            case 1 -> {
                int items = 0;
                while (items < g.b && source.draw(1, false) == 1) {
                    all.addAll(numbersOf(g.a, source));
                    items++;
                }
            }
            case 2 -> {
                all.addAll(numbersOf(g.a, source));
                all.addAll(numbersOf(g.b, source));
            }
            case 3 -> all.addAll(numbersOf(source.draw(1, false) == 0 ? g.a : g.b, source));
            case 4 -> {
                return kept(g, source);
            }
            default -> numbersOf(g.a, source).forEach(n -> all.add(n + g.b));
        }
        if (all.size() > 60) {
            throw new Ill();
        }
        return all;
    }

    private List<Integer> kept(Gen g, Source source) {
        for (int i = 0; i < 3; i++) {
            List<Integer> all = numbersOf(g.a, source);
            long total = all.stream().mapToLong(Integer::longValue).sum();
            if (Math.floorMod(total, 2L) == g.b) {
                return all;
            }
        }
        throw new Ill();
    }

    private int verdict(int property, List<Integer> of) {
        Prop p = props.get(property);
        if (of.size() < p.least) {
            return 3;
        }
        boolean fails = switch (p.kind) {
            case 0 -> of.stream().mapToLong(Integer::longValue).sum() > p.k;
            case 1, 4 -> of.contains(p.k);
            case 2 -> !of.equals(of.stream().sorted().toList());
            default -> of.size() >= p.k;
        };
        return !fails ? 0 : p.kind == 4 ? 2 : 1;
    }

    /** What a replay took and gave, or null for ILL. */
    private record Replayed(List<Integer> taken, List<Integer> numbers) { }

    private Replayed replayed(int generator, List<Integer> by) {
        List<Integer> taken = new ArrayList<>();
        try {
            List<Integer> given = numbersOf(generator, (m, sized) -> {
                if (taken.size() == by.size()) {
                    throw new Ends(m);
                }
                int c = by.get(taken.size());
                if (c > m) {
                    throw new Ill();
                }
                taken.add(c);
                return c;
            });
            return new Replayed(taken, given);
        } catch (Ill | Ends e) {
            return null;
        }
    }

    int check(int generator, int property, long seed, int runs) {
        if (!in(generator, 0, gens.size() - 1) || !in(property, 0, props.size() - 1) || !in(runs, 1, 60)) {
            return -3;
        }
        wastes = 0;
        for (int i = kepts.size() - 1; i >= 0; i--) {
            Kept k = kepts.get(i);
            if (k.generator == generator && k.property == property) {
                Replayed r = replayed(generator, k.row);
                if (r != null && in(verdict(property, r.numbers), 1, 2)) {
                    found(generator, property, r);
                    return -1;
                }
            }
        }
        return tries(generator, property, seed, runs);
    }

    private void found(int generator, int property, Replayed r) {
        row = r.taken;
        numbers = r.numbers;
        rowGenerator = generator;
        rowProperty = property;
        least = false;
    }

    private int tries(int generator, int property, long seed, int runs) {
        long[] x = {seed};
        int passed = 0;
        for (int z = 0; ; z++) {
            int size = z;
            List<Integer> taken = new ArrayList<>();
            int v = 4;
            try {
                List<Integer> given = numbersOf(generator, (m, sized) -> {
                    x[0] = x[0] * 6364136223846793005L + 1442695040888963407L;
                    if (taken.size() == 60) {
                        throw new Ill();
                    }
                    long c = x[0] >>> 33;
                    taken.add((int) (sized && m > size + 1 ? c % (size + 2) : c % (m + 1)));
                    return taken.get(taken.size() - 1);
                });
                v = verdict(property, given);
                if (v == 1 || v == 2) {
                    found(generator, property, new Replayed(taken, given));
                    kepts.add(new Kept(generator, property, taken));
                    return -1;
                }
            } catch (Ill e) {
                v = 4;
            }
            if (v == 0 && ++passed == runs) {
                return runs;
            }
            if (v != 0 && ++wastes > runs) {
                return -2;
            }
        }
    }

    private List<List<Integer>> steps() {
        List<List<Integer>> all = new ArrayList<>();
        for (int n : new int[] {8, 4, 2, 1}) {
            for (int i = 0; i + n <= row.size(); i++) {
                List<Integer> step = new ArrayList<>(row.subList(0, i));
                step.addAll(row.subList(i + n, row.size()));
                all.add(step);
            }
        }
        for (int i = 0; i < row.size(); i++) {
            int c = row.get(i);
            List<Integer> to = new ArrayList<>();
            if (c > 0) {
                to.add(0);
                if (c / 2 > 0) {
                    to.add(c / 2);
                }
                if (!to.contains(c - 1)) {
                    to.add(c - 1);
                }
            }
            for (int lower : to) {
                List<Integer> step = new ArrayList<>(row);
                step.set(i, lower);
                all.add(step);
            }
        }
        for (int i = 0; i + 1 < row.size(); i++) {
            if (row.get(i) > row.get(i + 1)) {
                List<Integer> step = new ArrayList<>(row);
                step.add(i, step.remove(i + 1));
                all.add(step);
            }
        }
        return all;
    }

    int shrink(int most) {
        if (row == null || !in(most, 0, 400)) {
            return -1;
        }
        numbers = replayed(rowGenerator, row).numbers;
        int want = verdict(rowProperty, numbers);
        int tried = 0;
        int got = 0;
        boolean went = true;
        while (went) {
            went = false;
            for (List<Integer> step : steps()) {
                if (tried == most) {
                    return got;
                }
                tried++;
                Replayed r = replayed(rowGenerator, step);
                if (r != null && verdict(rowProperty, r.numbers) == want) {
                    row = r.taken;
                    numbers = r.numbers;
                    got++;
                    went = true;
                    break;
                }
            }
        }
        least = least || tried < most;
        return got;
    }

    boolean least() {
        return least;
    }

    int replay(int generator, int property) {
        if (!in(generator, 0, gens.size() - 1) || !in(property, 0, props.size() - 1)) {
            return -1;
        }
        Replayed r = replayed(generator, puts);
        puts.clear();
        numbers = r == null ? new ArrayList<>() : r.numbers;
        return r == null ? 4 : verdict(property, numbers);
    }

    boolean put(int choice) {
        return choice >= 0 && puts.size() < 60 && puts.add(choice);
    }

    int choice(int i) {
        return row != null && in(i, 0, row.size() - 1) ? row.get(i) : -1;
    }

    int size(int what) {
        return switch (what) {
            case 0 -> row == null ? 0 : row.size();
            case 1 -> numbers.size();
            case 2 -> kepts.size();
            case 3 -> wastes;
            default -> -1;
        };
    }

    int number(int i) {
        return in(i, 0, numbers.size() - 1) ? numbers.get(i) : 0;
    }

    int all(int generator, int most) {
        if (!in(generator, 0, gens.size() - 1) || !in(most, 1, 200)) {
            return -1;
        }
        sum = 0;
        int[] counts = new int[2];
        explore(generator, most, new ArrayList<>(), counts);
        return counts[0];
    }

    /** Goes through the rows that begin so; counts: those that are well, and all that were looked at. */
    private void explore(int generator, int most, List<Integer> start, int[] counts) {
        if (counts[0] == most || counts[1] == 2000) {
            return;
        }
        int[] place = {0};
        try {
            List<Integer> given = numbersOf(generator, (m, sized) -> {
                if (place[0] == start.size()) {
                    throw start.size() == 60 ? new Ill() : new Ends(m);
                }
                return start.get(place[0]++);
            });
            given.forEach(n -> sum = 31 * sum + n);
            sum = 31 * sum + 7;
            counts[0]++;
            counts[1]++;
        } catch (Ill e) {
            counts[1]++;
        } catch (Ends e) {
            for (int c = 0; c <= e.m; c++) {
                List<Integer> longer = new ArrayList<>(start);
                longer.add(c);
                explore(generator, most, longer, counts);
            }
        }
    }

    long sum() {
        return sum;
    }
}
