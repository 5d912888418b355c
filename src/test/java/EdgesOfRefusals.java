import java.util.ArrayList;
import java.util.Arrays;
import java.util.List;
import java.util.function.BiPredicate;
import java.util.function.Supplier;
import java.util.function.ToLongBiFunction;
import java.util.function.ToLongFunction;

/**
 * The Terms' REFUSALS: each call is made with all that its edges can be put together to, in harbours without CELLS, with
 * one, with some of all and in a full one; the first REFUSAL that fits, in the order of its promise, is the answer.
 */
final class EdgesOfRefusals {
    private static final int LEAST = Integer.MIN_VALUE;
    private static final int MOST = Integer.MAX_VALUE;
    private static final int[] CELLS = {LEAST, -1, 0, 1, 2, 3, 7, 8, 9, MOST};
    private static final int[] SOME_CELLS = {-1, 0, 2, 3, 7, 8};
    private static final int[] STUFFS = {LEAST, -1, 0, 1, 2, MOST};
    private static final int[] RUNS = {LEAST, -1, 0, 1, 200, 201, MOST};
    private static final int[] NO_AND_YES = {0, 1};

    /** A harbour, and what a test may know of it. */
    private record Known(String name, Supplier<HarbourMud> made, int cells, int[][] ways, int rivers, int text, int[] row,
        boolean hasImage) {
        boolean has(int cell) {
            return cell >= 0 && cell < cells;
        }

        int together(int from, int told) {
            return Arrays.stream(ways).filter(w -> w[0] == from && w[2] == told).mapToInt(w -> w[3]).sum();
        }

        boolean rowHasStranger() {
            return Arrays.stream(row).anyMatch(v -> v != 9 && !has(v));
        }
    }

    private record Rule(int number, BiPredicate<Known, int[]> fits) {
    }

    private static final List<Known> HARBOURS = List.of(
        new Known("none", Harbours::none, 0, new int[0][], 0, 0, new int[0], false),
        new Known("none, a ROW", EdgesOfRefusals::noneWithRow, 0, new int[0][], 0, 0, new int[] {9, 0}, false),
        new Known("one", Harbours::one, 1, new int[0][], 0, 0, new int[0], false),
        new Known("some", Harbours::some, 3, Harbours.WAYS_OF_SOME, 2, 7, Harbours.ROW_OF_SOME, true),
        new Known("full", Harbours::full, 8, Harbours.WAYS_OF_FULL, 8, 96, new int[28], true));

    private EdgesOfRefusals() {
    }

    static void look() {
        Sentences.quoteTerms("REFUSALS (the call answers the number, the first that fits in the order in which it tells them;"
            + " nothing changes but how many there were):");
        harboursAreAsKnown();
        building();
        telling();
        Sentences.quoteTerms("-1 NOBODY: no such CELL, STUFF, WAY, RIVER, KIND.");
        nobody();
        Sentences.quoteTerms("-2 OTHER: what.");
        grid("set", 0, (x, a) -> x.set(a[0], a[1], a[2]), setRules(), CELLS, new int[] {LEAST, -1, 0, 1, 2, 3, 4, MOST},
            new int[] {LEAST, -1, 0, 99, 100, 101, MOST});
        Sentences.quote(14, "-2; -1 (no such CELL; DROP may be 8); -4; -6.");
        grid("dredger", 0, (x, a) -> x.dredger(a[0], a[1]), dredgerRules(), new int[] {LEAST, -1, 0, 1, 2, 3, 4, 5, MOST},
            new int[] {LEAST, -1, 0, 1, 2, 3, 4, 5, 7, 8, 9, 99, 100, 999, 1000, MOST});
        Sentences.quoteTerms("-3 STATE: it is not as told.");
        states();
        Sentences.quoteTerms("-4 BELOW: a number below the least. -6 ROOM: a number above the greatest, no room.");
        numbers();
        Sentences.quoteTerms("Of lacks(), back(), share() REFUSALS are 1000000000 less (-1000000001 ..);");
        grid("lacks", Checks.FAR, (x, a) -> x.lacks(a[0]), List.of(noCell(0)), CELLS);
        grid("back", Checks.FAR, (x, a) -> x.back(a[0], a[1], a[2], a[3], a[4]), backRules(), SOME_CELLS,
            new int[] {-1, 0, 1, 2}, new int[] {0, 1, 9999, 10000}, new int[] {-1, 0, 1, 7, 8, 255, 256},
            new int[] {0, 1, 200, 201});
        grid("share", Checks.FAR, (x, a) -> x.share(a[0], a[1]), List.of(rule(-1, (k, a) -> a[0] < 0 || a[0] >= k.rivers),
            below(1, 1), above(1, 200)), CELLS, RUNS);
        Sentences.quoteTerms("of cost() -4000000000000000000 less likewise.");
        grid("cost", Checks.FAR_COST, (x, a) -> x.cost(a[0]), runRules(), RUNS);
    }

    private static HarbourMud noneWithRow() {
        HarbourMud x = new HarbourMud();
        x.row(9);
        x.row(0);
        return x;
    }

    private static Rule rule(int number, BiPredicate<Known, int[]> fits) {
        return new Rule(number, fits);
    }

    private static Rule noCell(int at) {
        return rule(-1, (k, a) -> !k.has(a[at]));
    }

    private static Rule noStuff(int at) {
        return rule(-1, (k, a) -> a[at] != 0 && a[at] != 1);
    }

    private static Rule below(int at, int least) {
        return rule(-4, (k, a) -> a[at] < least);
    }

    private static Rule above(int at, int greatest) {
        return rule(-6, (k, a) -> a[at] > greatest);
    }

    private static Rule noCells() {
        return rule(-3, (k, a) -> k.cells == 0);
    }

    private static List<Rule> runRules() {
        return List.of(below(0, 1), above(0, 200), noCells());
    }

    private static List<Rule> setRules() {
        return List.of(noCell(0), rule(-2, (k, a) -> a[1] < 0 || a[1] > 3), below(2, 0),
            rule(-6, (k, a) -> a[2] > (a[1] < 2 ? 100 : 99)));
    }

    private static List<Rule> dredgerRules() {
        int[] greatest = {999, 0, 4, 0, 99};
        return List.of(rule(-2, (k, a) -> a[0] < 0 || a[0] > 4),
            rule(-1, (k, a) -> a[0] == 1 && !k.has(a[1]) && a[1] != 8),
            rule(-1, (k, a) -> a[0] == 3 && !k.has(a[1])),
            rule(-4, (k, a) -> a[0] != 1 && a[0] != 3 && a[1] < 0),
            rule(-6, (k, a) -> a[0] != 1 && a[0] != 3 && a[1] > greatest[a[0]]));
    }

    private static List<Rule> wayRules() {
        return List.of(noCell(0), rule(-1, (k, a) -> !k.has(a[1]) && a[1] != 8), rule(-1, (k, a) -> a[0] == a[1]),
            rule(-1, (k, a) -> a[2] != 0 && a[2] != 10 && a[2] != 100 && a[2] != 110),
            below(3, 1), above(3, 100), rule(-6, (k, a) -> k.ways.length == 24),
            rule(-3, (k, a) -> k.together(a[0], a[2]) + a[3] > 100));
    }

    private static List<Rule> backRules() {
        return List.of(noCell(0), noStuff(1), rule(-1, (k, a) -> (a[3] & -(1 << k.cells)) != 0),
            below(2, 1), below(4, 1), above(2, 9999), above(4, 200));
    }

    /** What is told of the harbours above is so. */
    private static void harboursAreAsKnown() {
        for (Known k : HARBOURS) {
            HarbourMud x = k.made.get();
            Checks.due("CELLS of " + k.name, x.count(0), k.cells);
            Checks.due("WAYS of " + k.name, x.count(1), k.ways.length);
            Checks.due("RIVERS of " + k.name, x.count(2), k.rivers);
            Checks.due("bytes of the TEXT of " + k.name, x.count(7), k.text);
            Checks.due("bytes of the ROW of " + k.name, x.count(8), k.row.length);
        }
    }

    private static void building() {
        grid("cell", 0, (x, a) -> x.cell(a[0], a[1]), List.of(below(0, 1), below(1, 0), above(0, 99), above(1, 99),
            rule(-6, (k, a) -> k.cells == 8)), new int[] {LEAST, -1, 0, 1, 99, 100, MOST},
            new int[] {LEAST, -1, 0, 99, 100, MOST});
        grid("way", 0, (x, a) -> x.way(a[0], a[1], a[2], a[3]), wayRules(), SOME_CELLS, new int[] {-1, 0, 1, 3, 7, 8, 9},
            new int[] {-100, -10, 0, 10, 11, 20, 100, 110, 200}, new int[] {0, 1, 40, 41, 50, 51, 100, 101});
        grid("river", 0, (x, a) -> x.river(a[0], a[1], a[2]), List.of(noCell(0), noStuff(1), below(2, 1), above(2, 999),
            rule(-6, (k, a) -> k.rivers == 8)), CELLS, STUFFS, new int[] {LEAST, -1, 0, 1, 999, 1000, MOST});
        grid("put", 0, (x, a) -> x.put(a[0], a[1], a[2] == 1, a[3]), List.of(noCell(0), noStuff(1), below(3, -9999),
            above(3, 9999)), CELLS, STUFFS, NO_AND_YES, new int[] {LEAST, -10000, -9999, 0, 9999, 10000, MOST});
    }

    private static void telling() {
        grid("tons", 0, (x, a) -> x.tons(a[0], a[1], a[2] == 1), List.of(noCell(0), noStuff(1)), CELLS, STUFFS, NO_AND_YES);
        grid("depth", 0, (x, a) -> x.depth(a[0]), List.of(noCell(0)), CELLS);
        grid("image", 0, (x, a) -> x.image(), List.of());
    }

    private static void nobody() {
        grid("shut", 0, (x, a) -> x.shut(a[0], a[1] == 1), List.of(rule(-1, (k, a) -> a[0] < 0 || a[0] >= k.ways.length)),
            new int[] {LEAST, -1, 0, 3, 4, 23, 24, 32, MOST}, NO_AND_YES);
        grid("judge", 0, (x, a) -> x.judge(a[0]), List.of(rule(-2, (k, a) -> a[0] < 0 || a[0] > 2),
            rule(-1, (k, a) -> k.rowHasStranger()), noCells()), new int[] {LEAST, -1, 0, 1, 2, 3, MOST});
    }

    private static void states() {
        grid("takes", 0, (x, a) -> x.takes(), List.of(noCells()));
        grid("restore", 0, (x, a) -> x.restore(), List.of(rule(-3, (k, a) -> !k.hasImage)));
        grid("go", 0, (x, a) -> x.go(a[0]), runRules(), RUNS);
        grid("holds", 0, (x, a) -> x.holds(a[0]), runRules(), RUNS);
        grid("alone", 0, (x, a) -> x.alone(a[0]), runRules(), RUNS);
        grid("bestDrop", 0, (x, a) -> x.bestDrop(a[0]), runRules(), RUNS);
        grid("bestPlan", 0, (x, a) -> x.bestPlan(a[0]), runRules(), RUNS);
        grid("leastCap", 0, (x, a) -> x.leastCap(a[0]), runRules(), RUNS);
        grid("wall", 0, (x, a) -> x.wall(a[0]), runRules(), RUNS);
    }

    private static void numbers() {
        grid("feed", 0, (x, a) -> x.feed(a[0], a[1]), List.of(below(0, 1), above(0, 8),
            rule(-6, (k, a) -> k.text + a[0] > 96)), new int[] {LEAST, -1, 0, 1, 7, 8, 9, 96, MOST}, new int[] {LEAST, 0, MOST});
        grid("moon", 0, (x, a) -> x.moon(a[0], a[1]), List.of(below(0, 1), above(0, 28)),
            new int[] {LEAST, -1, 0, 1, 28, 29, MOST}, new int[] {LEAST, 0, MOST});
        grid("row", 0, (x, a) -> x.row(a[0]), List.of(below(0, 0), above(0, 9), rule(-6, (k, a) -> k.row.length == 28)),
            new int[] {LEAST, -1, 0, 8, 9, 10, MOST});
    }

    private static void grid(String name, long base, ToLongBiFunction<HarbourMud, int[]> call, List<Rule> rules,
        int[]... values) {
        for (Known k : HARBOURS) {
            for (int[] a : allOf(values)) {
                tried(k, name + Arrays.toString(a) + " in " + k.name, base, x -> call.applyAsLong(x, a), refusalOf(rules, k, a));
            }
        }
    }

    private static void tried(Known k, String call, long base, ToLongFunction<HarbourMud> answer, int number) {
        if (number != 0) {
            Harbours.refusedOnce(k.made, call, answer, base, number);
            return;
        }
        HarbourMud x = k.made.get();
        HarbourMud alike = k.made.get();
        long got = answer.applyAsLong(x);
        Checks.yes(call + " is taken, not " + got, base != 0 ? got > base : got >= 0 || got == -9);
        for (int what = 11; what <= 16; what++) {
            Checks.due("count(" + what + ") behind " + call, x.count(what), alike.count(what));
        }
    }

    private static int refusalOf(List<Rule> rules, Known k, int[] a) {
        for (Rule rule : rules) {
            if (rule.fits.test(k, a)) {
                return rule.number;
            }
        }
        return 0;
    }

    private static List<int[]> allOf(int[][] values) {
        List<int[]> all = new ArrayList<>();
        all.add(new int[0]);
        for (int[] choice : values) {
            List<int[]> longer = new ArrayList<>();
            for (int[] begun : all) {
                for (int v : choice) {
                    int[] next = Arrays.copyOf(begun, begun.length + 1);
                    next[begun.length] = v;
                    longer.add(next);
                }
            }
            all = longer;
        }
        return all;
    }
}
