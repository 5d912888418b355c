import java.util.ArrayList;
import java.util.List;
import java.util.function.LongSupplier;
import java.util.regex.Matcher;
import java.util.regex.Pattern;

/**
 * The document once more, as plainly as it can be told, with another make than the class: objects in lists, copies,
 * refusals thrown, coasts by a pattern. Slow, and for comparison alone.
 */
final class Model {
    private static final class Refusal extends RuntimeException {
        private static final long serialVersionUID = 1L;
        final int number;

        Refusal(int number) {
            super(null, null, false, false);
            this.number = number;
        }
    }

    private static final class Cell {
        int base;
        int wanted;
        int settles = 50;
        int stirs = 20;
        int price = 1;
        long[] loose = new long[2];
        long[] settled = new long[2];

        long depth() {
            return Math.max(0, base - (settled[0] + settled[1]) / 100);
        }

        long lacks() {
            return wanted - depth();
        }

        Cell copy() {
            Cell c = new Cell();
            c.base = base;
            c.wanted = wanted;
            c.settles = settles;
            c.stirs = stirs;
            c.price = price;
            c.loose = loose.clone();
            c.settled = settled.clone();
            return c;
        }
    }

    private record Way(int from, int to, int kind, int stuff, int hundredths, boolean shut) {
        Way withShut(boolean is) {
            return new Way(from, to, kind, stuff, hundredths, is);
        }
    }

    private record River(int cell, int stuff, int tons) {
    }

    private static final class World {
        List<Cell> cells = new ArrayList<>();
        List<Way> ways = new ArrayList<>();
        List<River> rivers = new ArrayList<>();
        String moon = "s";
        int[] dredger = {0, 8, 0, 0, 1};
        int tides = 0;
        long gone = 0;
        long taken = 0;
        long costOfLast = 0;
        long takenLast = 0;

        World copy() {
            World w = new World();
            for (Cell c : cells) {
                w.cells.add(c.copy());
            }
            w.ways.addAll(ways);
            w.rivers.addAll(rivers);
            w.moon = moon;
            w.dredger = dredger.clone();
            w.tides = tides;
            w.gone = gone;
            w.taken = taken;
            return w;
        }

        boolean has(int cell) {
            return cell >= 0 && cell < cells.size();
        }

        boolean spring() {
            return moon.charAt(tides % moon.length()) == 's';
        }

        int near() {
            return cells.stream().filter(c -> c.lacks() > 0 && cells.indexOf(c) != dredger[1])
                .sorted((a, b) -> Long.compare(b.lacks(), a.lacks())).map(cells::indexOf).findFirst().orElse(-9);
        }

        int deep() {
            return cells.stream().filter(c -> c.lacks() > -2 && cells.indexOf(c) != dredger[1])
                .sorted((a, b) -> Long.compare(b.settled[0] + b.settled[1], a.settled[0] + a.settled[1]))
                .map(cells::indexOf).findFirst().orElse(-9);
        }

        int planned() {
            int told = dredger[3] == dredger[1] ? -9 : dredger[3];
            switch (dredger[2]) {
                case 0: return near();
                case 1: return spring() ? -9 : near();
                case 2: return told;
                case 3: return deep();
                default: return spring() ? told : near();
            }
        }

        /** from: a CELL, -9 none, 99 by the PLAN. */
        void tide(int from) {
            if (spring()) {
                for (Cell c : cells) {
                    for (int s = 0; s < 2; s++) {
                        long part = c.settled[s] * c.stirs / 100;
                        c.settled[s] -= part;
                        c.loose[s] += part;
                    }
                }
            }
            World before = copy();
            for (Way w : ways) {
                if (!w.shut && (w.kind == 0) == spring()) {
                    long part = before.cells.get(w.from).loose[w.stuff] * w.hundredths / 100;
                    cells.get(w.from).loose[w.stuff] -= part;
                    if (w.to == 8) {
                        gone += part;
                    } else {
                        cells.get(w.to).loose[w.stuff] += part;
                    }
                }
            }
            for (River r : rivers) {
                cells.get(r.cell).loose[r.stuff] += r.tons;
            }
            for (Cell c : cells) {
                for (int s = 0; s < 2; s++) {
                    long part = c.loose[s] * c.settles / 100;
                    c.loose[s] -= part;
                    c.settled[s] += part;
                }
            }
            dredge(from == 99 ? planned() : from);
            tides++;
        }

        private void dredge(int from) {
            takenLast = 0;
            if (has(from) && from != dredger[1]) {
                for (int s = 1; s >= 0; s--) {
                    long part = Math.min(dredger[0] - takenLast, cells.get(from).settled[s]);
                    cells.get(from).settled[s] -= part;
                    takenLast += part;
                    if (dredger[1] == 8) {
                        gone += part;
                    } else {
                        cells.get(dredger[1]).loose[s] += part;
                    }
                }
            }
            taken += takenLast;
            costOfLast = takenLast * dredger[4] + (dredger[1] == 8 ? 2 * takenLast : 0);
            for (Cell c : cells) {
                costOfLast += Math.max(0, c.lacks()) * c.price;
            }
        }

        boolean lacksSomewhere() {
            return cells.stream().anyMatch(c -> c.lacks() > 0);
        }
    }

    private World world = new World();
    private World image = null;
    private String text = "";
    private List<Integer> row = new ArrayList<>();
    private final int[] refusals = new int[7];

    long call(String name, long... a) {
        int[] v = new int[a.length];
        for (int i = 0; i < a.length; i++) {
            v[i] = (int) a[i];
        }
        long base = name.equals("cost") ? -4000000000000000000L
            : name.equals("lacks") || name.equals("back") || name.equals("share") ? -1000000000L : 0;
        LongSupplier answer = () -> answer(name, v, a.length > 1 ? a[1] : 0);
        try {
            return answer.getAsLong();
        } catch (Refusal r) {
            refusals[-r.number]++;
            return base + r.number;
        }
    }

    private static void refuseIf(boolean is, int number) {
        if (is) {
            throw new Refusal(number);
        }
    }

    private void run(int n) {
        refuseIf(n < 1, -4);
        refuseIf(n > 200, -6);
        refuseIf(world.cells.isEmpty(), -3);
    }

    private void stuff(int s) {
        refuseIf(s != 0 && s != 1, -1);
    }

    private void cellThere(int c) {
        refuseIf(!world.has(c), -1);
    }

    private long answer(String name, int[] v, long bytes) {
        switch (name) {
            case "feed": return feed(v[0], bytes);
            case "coast": return coast();
            case "cell": return cell(world, v[0], v[1]);
            case "set": return set(v[0], v[1], v[2]);
            case "way":
                refuseIf(v[2] != 0 && v[2] != 10 && v[2] != 100 && v[2] != 110, -1);
                return way(world, v[0], v[1], v[2] / 100, v[2] % 100 / 10, v[3]);
            case "shut": return shut(v[0], v[1] == 1);
            case "river": return river(world, v[0], v[1], v[2]);
            case "moon": return moon(v[0], v[1]);
            case "put": return put(v[0], v[1], v[2] == 1, v[3]);
            case "tons":
                cellThere(v[0]);
                stuff(v[1]);
                return (v[2] == 1 ? world.cells.get(v[0]).loose : world.cells.get(v[0]).settled)[v[1]];
            case "depth":
                cellThere(v[0]);
                return world.cells.get(v[0]).depth();
            case "lacks":
                cellThere(v[0]);
                return world.cells.get(v[0]).lacks();
            case "dredger": return dredger(v[0], v[1]);
            case "takes":
                refuseIf(world.cells.isEmpty(), -3);
                return world.planned();
            case "go":
                run(v[0]);
                for (int i = 0; i < v[0]; i++) {
                    world.tide(99);
                }
                return world.tides;
            case "row":
                refuseIf(v[0] < 0, -4);
                refuseIf(v[0] > 9 || row.size() == 28, -6);
                row.add(v[0]);
                return row.size();
            case "judge": return judge(v[0]);
            case "image":
                image = world.copy();
                return image.cells.size();
            case "restore":
                refuseIf(image == null, -3);
                world = image.copy();
                return world.cells.size();
            case "count": return count(v[0]);
            default: return inMind(name, v);
        }
    }

    private long inMind(String name, int[] v) {
        if (name.equals("back")) {
            return back(v[0], v[1], v[2], v[3], v[4]);
        }
        if (name.equals("share")) {
            return share(v[0], v[1]);
        }
        int n = v[0];
        run(n);
        switch (name) {
            case "cost": return cost(world, n);
            case "holds": return holds(world, n, 99);
            case "alone": return holds(world, n, -9);
            case "bestDrop": return bestOf(1, new int[] {0, 1, 2, 3, 4, 5, 6, 7, 8}, n);
            case "bestPlan": return bestOf(2, new int[] {0, 1, 2, 3, 4}, n);
            case "leastCap":
                for (int cap = 0; cap < 1000; cap += 50) {
                    World w = world.copy();
                    w.dredger[0] = cap;
                    if (holds(w, n, 99) == -9) {
                        return cap;
                    }
                }
                return -9;
            default: return wall(n);
        }
    }

    private long feed(int n, long bytes) {
        refuseIf(n < 1, -4);
        refuseIf(n > 8 || text.length() + n > 96, -6);
        for (int i = 0; i < n; i++) {
            text += (char) (bytes >> 8 * i & 255);
        }
        return text.length();
    }

    private static final String NUMBER = "(0|[1-9][0-9]{0,2})";
    private static final Pattern STATEMENT = Pattern.compile("c" + NUMBER + "," + NUMBER + ";|w([0-9])([0-9])([sn])([SM])"
        + NUMBER + ";|r([0-9])([SM])" + NUMBER + ";|m([sn]{1,28});");
    private static final Pattern COAST = Pattern.compile("(?:" + STATEMENT.pattern() + ")+");

    /** The longest start with which some COAST can go on ends where the first fault is. */
    private long coast() {
        String told = text;
        text = "";
        if (!COAST.matcher(told).matches()) {
            int end = 0;
            while (end < told.length()) {
                Matcher m = COAST.matcher(told.substring(0, end + 1));
                if (!m.matches() && !m.hitEnd()) {
                    break;
                }
                end++;
            }
            return -1000 - end;
        }
        World draft = world.copy();
        Matcher m = STATEMENT.matcher(told);
        int statements = 0;
        while (m.find()) {
            try {
                statement(draft, m);
            } catch (Refusal r) {
                return -2000 - m.start();
            }
            statements++;
        }
        world = draft;
        return statements;
    }

    private static int number(Matcher m, int group) {
        return Integer.parseInt(m.group(group));
    }

    private void statement(World w, Matcher m) {
        switch (m.group().charAt(0)) {
            case 'c':
                cell(w, number(m, 1), number(m, 2));
                break;
            case 'w':
                way(w, number(m, 3), number(m, 4), "sn".indexOf(m.group(5)), "SM".indexOf(m.group(6)), number(m, 7));
                break;
            case 'r':
                river(w, number(m, 8), "SM".indexOf(m.group(9)), number(m, 10));
                break;
            default:
                w.moon = m.group(11);
        }
    }

    private long cell(World w, int base, int wanted) {
        refuseIf(base < 1 || wanted < 0, -4);
        refuseIf(base > 99 || wanted > 99 || w.cells.size() == 8, -6);
        Cell c = new Cell();
        c.base = base;
        c.wanted = wanted;
        w.cells.add(c);
        return w.cells.size() - 1;
    }

    private long set(int cell, int what, int v) {
        cellThere(cell);
        refuseIf(what < 0 || what > 3, -2);
        refuseIf(v < 0, -4);
        refuseIf(v > (what < 2 ? 100 : 99), -6);
        Cell c = world.cells.get(cell);
        int was = new int[] {c.settles, c.stirs, c.price, c.wanted}[what];
        c.settles = what == 0 ? v : c.settles;
        c.stirs = what == 1 ? v : c.stirs;
        c.price = what == 2 ? v : c.price;
        c.wanted = what == 3 ? v : c.wanted;
        return was;
    }

    private long way(World w, int from, int to, int kind, int stuff, int hundredths) {
        refuseIf(!w.has(from) || to != 8 && !w.has(to) || from == to, -1);
        refuseIf(hundredths < 1, -4);
        refuseIf(hundredths > 100 || w.ways.size() == 24, -6);
        int together = w.ways.stream().filter(o -> o.from == from && o.kind == kind && o.stuff == stuff)
            .mapToInt(Way::hundredths).sum();
        refuseIf(together + hundredths > 100, -3);
        w.ways.add(new Way(from, to, kind, stuff, hundredths, false));
        return w.ways.size() - 1;
    }

    private long shut(int way, boolean is) {
        refuseIf(way < 0 || way >= world.ways.size(), -1);
        boolean was = world.ways.get(way).shut;
        world.ways.set(way, world.ways.get(way).withShut(is));
        return was == is ? 0 : 1;
    }

    private long river(World w, int cell, int stuff, int tons) {
        refuseIf(!w.has(cell), -1);
        stuff(stuff);
        refuseIf(tons < 1, -4);
        refuseIf(tons > 999 || w.rivers.size() == 8, -6);
        w.rivers.add(new River(cell, stuff, tons));
        return w.rivers.size() - 1;
    }

    private long moon(int n, int kinds) {
        refuseIf(n < 1, -4);
        refuseIf(n > 28, -6);
        int was = world.moon.length();
        StringBuilder letters = new StringBuilder();
        for (int i = 0; i < n; i++) {
            letters.append((kinds & 1 << i) != 0 ? 'n' : 's');
        }
        world.moon = letters.toString();
        return was;
    }

    private long put(int cell, int stuff, boolean loose, int tons) {
        cellThere(cell);
        stuff(stuff);
        refuseIf(tons < -9999, -4);
        refuseIf(tons > 9999, -6);
        long[] heap = loose ? world.cells.get(cell).loose : world.cells.get(cell).settled;
        long then = Math.max(0, heap[stuff] + tons);
        refuseIf(then > 1000000, -6);
        heap[stuff] = then;
        return then;
    }

    private long dredger(int what, int v) {
        refuseIf(what < 0 || what > 4, -2);
        refuseIf(what == 1 && v != 8 && !world.has(v), -1);
        refuseIf(what == 3 && !world.has(v), -1);
        refuseIf(v < 0, -4);
        refuseIf(v > new int[] {999, 8, 4, 7, 99}[what], -6);
        int was = world.dredger[what];
        world.dredger[what] = v;
        return was;
    }

    private static long cost(World from, int n) {
        World w = from.copy();
        long sum = 0;
        for (int i = 0; i < n; i++) {
            w.tide(99);
            sum += w.costOfLast;
        }
        return sum;
    }

    private static long holds(World from, int n, int whence) {
        World w = from.copy();
        long first = -9;
        for (int i = 0; i < n; i++) {
            w.tide(whence);
            if (first == -9 && w.lacksSomewhere()) {
                first = i;
            }
        }
        return first;
    }

    private long bestOf(int what, int[] values, int n) {
        long best = -9;
        long least = Long.MAX_VALUE;
        for (int v : values) {
            World w = world.copy();
            w.dredger[what] = v;
            if (what == 1 && v != 8 && !world.has(v)) {
                continue;
            }
            long c = cost(w, n);
            if (c < least) {
                least = c;
                best = v;
            }
        }
        return best;
    }

    private long wall(int n) {
        long best = -9;
        long least = cost(world, n);
        for (int i = 0; i < world.ways.size(); i++) {
            World w = world.copy();
            w.ways.set(i, w.ways.get(i).withShut(true));
            long c = cost(w, n);
            if (!world.ways.get(i).shut && c < least) {
                least = c;
                best = i;
            }
        }
        return best;
    }

    private static long inSet(World w, int stuff, int set) {
        long sum = 0;
        for (int i = 0; i < w.cells.size(); i++) {
            if ((set & 1 << i) != 0) {
                sum += w.cells.get(i).loose[stuff] + w.cells.get(i).settled[stuff];
            }
        }
        return sum;
    }

    private long back(int cell, int stuff, int tons, int set, int n) {
        cellThere(cell);
        stuff(stuff);
        for (int bit = 0; bit < 32; bit++) {
            refuseIf((set & 1 << bit) != 0 && !world.has(bit), -1);
        }
        refuseIf(tons < 1 || n < 1, -4);
        refuseIf(tons > 9999 || n > 200, -6);
        World with = world.copy();
        World without = world.copy();
        with.cells.get(cell).loose[stuff] += tons;
        for (int i = 0; i < n; i++) {
            with.tide(-9);
            without.tide(-9);
        }
        return inSet(with, stuff, set) - inSet(without, stuff, set);
    }

    private long share(int river, int n) {
        refuseIf(river < 0 || river >= world.rivers.size(), -1);
        refuseIf(n < 1, -4);
        refuseIf(n > 200, -6);
        World with = world.copy();
        World without = world.copy();
        without.rivers.remove(river);
        long more = 0;
        for (int i = 0; i < n; i++) {
            with.tide(99);
            without.tide(99);
        }
        for (int i = 0; i < world.cells.size(); i++) {
            more += with.cells.get(i).settled[0] + with.cells.get(i).settled[1];
            more -= without.cells.get(i).settled[0] + without.cells.get(i).settled[1];
        }
        return more;
    }

    private long judge(int what) {
        refuseIf(what < 0 || what > 2, -2);
        for (int b : row) {
            refuseIf(b != 9 && !world.has(b), -1);
        }
        refuseIf(world.cells.isEmpty(), -3);
        World w = world.copy();
        long[] answers = {-9, 0, 0};
        for (int i = 0; i < row.size(); i++) {
            int from = row.get(i);
            w.tide(from == 9 ? -9 : from);
            answers[1] += w.costOfLast;
            if (answers[0] == -9 && from != 9 && w.takenLast == 0) {
                answers[0] = i;
            }
        }
        for (Cell c : w.cells) {
            answers[2] += Math.max(0, c.lacks());
        }
        row = new ArrayList<>();
        return answers[what];
    }

    private long count(int what) {
        switch (what) {
            case 0: return world.cells.size();
            case 1: return world.ways.size();
            case 2: return world.rivers.size();
            case 3: return world.tides;
            case 4: return inSet(world, 0, 255) + inSet(world, 1, 255);
            case 5: return world.gone;
            case 6: return world.taken;
            case 7: return text.length();
            case 8: return row.size();
            case 9: return world.moon.length();
            default: return what >= 11 && what <= 16 ? refusals[what - 10] : -9;
        }
    }
}
