import java.util.ArrayDeque;
import java.util.Random;

/** Runs of 512 calls, drawn from fixed seeds, on the class and on the model: each answer must be the same. */
public final class ModelTest {
    private static final int RUNS = 600;
    private static final int CALLS = 512;

    private static final String[] NAMES = {"feed", "coast", "cell", "set", "way", "shut", "river", "moon", "put", "tons",
        "depth", "lacks", "dredger", "takes", "go", "cost", "holds", "alone", "back", "bestDrop", "bestPlan", "leastCap",
        "wall", "share", "row", "judge", "image", "restore", "count"};

    private final Random random;
    private final HarbourMud x = new HarbourMud();
    private final Model model = new Model();
    private final ArrayDeque<String> latest = new ArrayDeque<>();
    private int calls = 0;
    private final boolean wild;
    /** Harbours that hold for a while, in which feet are dear and taking is cheap: what is best differs there. */
    private final boolean calm;

    private ModelTest(int seed) {
        random = new Random(seed);
        wild = seed % 4 == 3;
        calm = seed % 4 == 1;
    }

    public static void main(String[] args) {
        for (int seed = 0; seed < RUNS; seed++) {
            if (!new ModelTest(seed).run(seed)) {
                break;
            }
        }
        Checks.end("ModelTest");
    }

    private boolean run(int seed) {
        while (calls < CALLS) {
            String name = calls < 25 && !wild ? NAMES[2 + random.nextInt(7)] : NAMES[random.nextInt(NAMES.length)];
            if (name.equals("feed") && random.nextInt(20) > 0) {
                if (!compareText(seed)) {
                    return false;
                }
            } else if (!compare(seed, name, argumentsOf(name))) {
                return false;
            }
        }
        return true;
    }

    /** What would be behind the last call is left out: it is free. */
    private boolean compare(int seed, String name, long[] a) {
        if (calls >= CALLS) {
            return true;
        }
        calls++;
        long got = callOf(name, a);
        long want = model.call(name, a);
        StringBuilder call = new StringBuilder("seed " + seed + ": " + name + "(");
        for (long v : a) {
            call.append(v).append(' ');
        }
        call.append(") ");
        latest.add(call.toString() + got);
        if (latest.size() > 60) {
            latest.remove();
        }
        Checks.due(call.toString(), got, want);
        if (got != want) {
            latest.forEach(System.out::println);
        }
        return got == want;
    }

    /** A COAST, most often right, now and then with a byte changed or the end cut off. */
    private boolean compareText(int seed) {
        StringBuilder text = new StringBuilder();
        int statements = 1 + random.nextInt(6);
        for (int i = 0; i < statements; i++) {
            text.append(statement());
        }
        if (random.nextInt(4) == 0) {
            text.setCharAt(random.nextInt(text.length()), ";,0123456789cwrmsnSMx".charAt(random.nextInt(21)));
        }
        if (random.nextInt(6) == 0) {
            text.setLength(random.nextInt(text.length()));
        }
        for (int from = 0; from < text.length(); from += 8) {
            int n = Math.min(8, text.length() - from);
            long bytes = 0;
            for (int i = 0; i < n; i++) {
                bytes |= (text.charAt(from + i) & 255L) << (8 * i);
            }
            if (!compare(seed, "feed", new long[] {n, bytes})) {
                return false;
            }
        }
        return compare(seed, "coast", new long[0]);
    }

    /** Asked of the model, since a call on the class would be one of its 512. */
    private int number(int what) {
        return (int) model.call("count", new long[] {what});
    }

    private String statement() {
        int cells = Math.max(1, number(0));
        switch (random.nextInt(4)) {
            case 0:
                if (calm) {
                    return "c" + (60 + random.nextInt(40)) + ",5" + random.nextInt(8) + ";";
                }
                return "c" + (1 + random.nextInt(random.nextInt(9) == 0 ? 999 : 99)) + "," + random.nextInt(99) + ";";
            case 1:
                return "w" + random.nextInt(cells) + (random.nextBoolean() ? 8 : random.nextInt(cells)) + "sn".charAt(random.nextInt(2))
                    + "SM".charAt(random.nextInt(2)) + random.nextInt(30) + ";";
            case 2:
                return "r" + random.nextInt(cells) + "SM".charAt(random.nextInt(2)) + random.nextInt(calm ? 99 : 999) + ";";
            default:
                StringBuilder moon = new StringBuilder("m");
                int n = 1 + random.nextInt(random.nextInt(5) == 0 ? 29 : 8);
                for (int i = 0; i < n; i++) {
                    moon.append("sn".charAt(random.nextInt(2)));
                }
                return moon.append(';').toString();
        }
    }

    /** Mostly inside of low .. high, now and then beside it, in wild runs anything. */
    private long about(int low, int high) {
        int dice = random.nextInt(40);
        if (wild && dice < 12) {
            return dice < 6 ? random.nextInt() : new int[] {0, -1, Integer.MIN_VALUE, Integer.MAX_VALUE, 8, 9}[dice - 6];
        }
        if (dice == 39) {
            return high + 1 + random.nextInt(2);
        }
        if (dice == 38) {
            return low - 1 - random.nextInt(2);
        }
        return dice == 37 ? high : dice == 36 ? low : low + random.nextInt(high - low + 1);
    }

    private long someCell() {
        return about(0, Math.max(0, number(0) - 1));
    }

    private long cellOrSea() {
        return random.nextInt(4) == 0 ? 8 : someCell();
    }

    private long tides() {
        return random.nextInt(6) == 0 ? about(1, 200) : about(1, 25);
    }

    private long bit() {
        return random.nextInt(2);
    }

    private long[] argumentsOf(String name) {
        switch (name) {
            case "feed": return new long[] {about(1, 8), random.nextLong()};
            case "cell":
                int base = (int) about(1, 99);
                if (calm) {
                    return new long[] {60 + random.nextInt(40), 50 + random.nextInt(8)};
                }
                return new long[] {base, random.nextBoolean() ? about(0, 99) : Math.max(0, base - random.nextInt(6))};
            case "set":
                int what = (int) about(0, 3);
                if (calm) {
                    return new long[] {someCell(), what, new int[] {50, 10, 60, 50}[what & 3] + random.nextInt(20)};
                }
                return new long[] {someCell(), what, about(0, what < 2 ? 100 : 99)};
            case "way": return new long[] {someCell(), cellOrSea(), wild ? about(0, 120) : 100 * bit() + 10 * bit(), about(1, 60)};
            case "shut": return new long[] {about(0, Math.max(0, number(1) - 1)), bit()};
            case "river":
                boolean great = random.nextInt(4) == 0;
                return new long[] {someCell(), about(0, 1), calm ? about(1, 150) : great ? about(1, 999) : about(1, 99)};
            case "go": return new long[] {calm ? about(1, 3) : tides()};
            case "moon": return new long[] {about(1, 28), random.nextInt()};
            case "put":
                if (calm) {
                    return new long[] {someCell(), about(0, 1), bit(), about(-900, 300)};
                }
                return new long[] {someCell(), about(0, 1), bit(), random.nextInt(3) == 0 ? about(-9999, 9999) : about(-200, 900)};
            case "tons": return new long[] {someCell(), about(0, 1), bit()};
            case "depth":
            case "lacks": return new long[] {someCell()};
            case "dredger": return dredgerArguments();
            case "back": return new long[] {someCell(), about(0, 1), about(1, 9999), about(0, (1 << number(0)) - 1), tides()};
            case "share": return new long[] {about(0, Math.max(0, number(2) - 1)), tides()};
            case "row": return new long[] {random.nextInt(3) == 0 ? 9 : someCell()};
            case "judge": return new long[] {about(0, 2)};
            case "count": return new long[] {about(0, 16)};
            case "coast":
            case "takes":
            case "image":
            case "restore": return new long[0];
            default: return new long[] {tides()};
        }
    }

    private long[] dredgerArguments() {
        int what = (int) about(0, 4);
        if (calm && what == 4) {
            return new long[] {4, 0};
        }
        switch (what) {
            case 0: return new long[] {0, random.nextBoolean() ? about(0, 999) : about(0, 120)};
            case 1: return new long[] {1, cellOrSea()};
            case 2: return new long[] {2, about(0, 4)};
            case 3: return new long[] {3, someCell()};
            default: return new long[] {what, random.nextBoolean() ? about(0, 3) : about(0, 99)};
        }
    }

    private long callOf(String name, long[] a) {
        int p = a.length > 0 ? (int) a[0] : 0;
        int q = a.length > 1 ? (int) a[1] : 0;
        int r = a.length > 2 ? (int) a[2] : 0;
        int s = a.length > 3 ? (int) a[3] : 0;
        switch (name) {
            case "feed": return x.feed(p, a[1]);
            case "coast": return x.coast();
            case "cell": return x.cell(p, q);
            case "set": return x.set(p, q, r);
            case "way": return x.way(p, q, r, s);
            case "shut": return x.shut(p, q == 1);
            case "river": return x.river(p, q, r);
            case "moon": return x.moon(p, q);
            case "put": return x.put(p, q, r == 1, s);
            case "tons": return x.tons(p, q, r == 1);
            case "depth": return x.depth(p);
            case "lacks": return x.lacks(p);
            case "dredger": return x.dredger(p, q);
            case "takes": return x.takes();
            case "go": return x.go(p);
            case "cost": return x.cost(p);
            case "holds": return x.holds(p);
            case "alone": return x.alone(p);
            case "back": return x.back(p, q, r, s, (int) a[4]);
            case "bestDrop": return x.bestDrop(p);
            case "bestPlan": return x.bestPlan(p);
            case "leastCap": return x.leastCap(p);
            case "wall": return x.wall(p);
            case "share": return x.share(p, q);
            case "row": return x.row(p);
            case "judge": return x.judge(p);
            case "image": return x.image();
            case "restore": return x.restore();
            default: return x.count(p);
        }
    }
}
