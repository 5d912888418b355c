import java.util.function.Supplier;
import java.util.function.ToLongFunction;

/**
 * Harbours to try calls on, each made anew by the same calls, and a look at all that is in one. A call that must
 * change nothing is made on one of two that are alike; then all that is in both is compared, down to THE IMAGE.
 * No object has more than 512 calls.
 */
final class Harbours {
    /** from, to, told, hundredths; SHUT is the one at 2. */
    static final int[][] WAYS_OF_SOME = {{0, 1, 0, 60}, {0, 8, 10, 50}, {1, 0, 110, 100}, {2, 0, 100, 1}};
    static final int[] ROW_OF_SOME = {0, 9, 1};
    /** Of each CELL to the next one and to the sea 96 together of each KIND's STUFF that is told. */
    static final int[][] WAYS_OF_FULL = waysOfFull();

    private Harbours() {
    }

    static HarbourMud none() {
        return new HarbourMud();
    }

    /** One CELL and nothing else. */
    static HarbourMud one() {
        HarbourMud x = new HarbourMud();
        x.cell(30, 29);
        return x;
    }

    /** Three CELLS and something of all, nothing as it is at first; THE IMAGE has two CELLS. */
    static HarbourMud some() {
        HarbourMud x = new HarbourMud();
        x.cell(20, 19);
        x.cell(25, 20);
        x.river(1, 0, 77);
        x.moon(5, 9);
        x.put(1, 1, false, 640);
        x.set(0, 1, 40);
        x.dredger(0, 33);
        x.go(2);
        x.image();
        x.cell(30, 28);
        for (int[] w : WAYS_OF_SOME) {
            x.way(w[0], w[1], w[2], w[3]);
        }
        x.shut(2, true);
        x.river(0, 1, 120);
        x.moon(3, 2);
        for (int cell = 0; cell < 3; cell++) {
            x.set(cell, 0, 30 + cell);
            x.set(cell, 1, 10 + cell);
            x.set(cell, 2, 3 + cell);
            x.put(cell, 0, false, 500 + 77 * cell);
            x.put(cell, 1, true, 900 - 33 * cell);
        }
        x.dredger(0, 90);
        x.dredger(1, 2);
        x.dredger(2, 4);
        x.dredger(3, 1);
        x.dredger(4, 7);
        x.go(4);
        Checks.feedAll(x, "c9,9;ms");
        for (int v : ROW_OF_SOME) {
            x.row(v);
        }
        x.depth(99);
        x.set(0, 99, 0);
        x.go(0);
        return x;
    }

    private static int[][] waysOfFull() {
        int[][] ways = new int[24][];
        for (int i = 0; i < 24; i++) {
            ways[i] = new int[] {i % 8, i < 8 ? (i + 1) % 8 : 8, 10 * (i & 1) + 100 * (i >> 2 & 1), 32};
        }
        return ways;
    }

    /** As many CELLS, WAYS, RIVERS, KINDS, bytes of the TEXT and of the ROW as there may be; an empty IMAGE. */
    static HarbourMud full() {
        HarbourMud x = new HarbourMud();
        x.image();
        for (int cell = 0; cell < 8; cell++) {
            x.cell(20 + cell, 21);
            x.river(cell, cell & 1, 100 + cell);
        }
        for (int[] w : WAYS_OF_FULL) {
            x.way(w[0], w[1], w[2], w[3]);
        }
        x.moon(28, 0x5a5a5a5);
        x.put(0, 0, false, 9999);
        x.dredger(0, 300);
        x.dredger(1, 7);
        x.go(3);
        Checks.feedAll(x, "ms;".repeat(32));
        for (int i = 0; i < 28; i++) {
            x.row(i % 7);
        }
        return x;
    }

    /** CELLS in which nothing moves by itself, of BASE and WANTED. */
    static HarbourMud still(int... basesAndWanted) {
        HarbourMud x = new HarbourMud();
        for (int i = 0; i + 1 < basesAndWanted.length; i += 2) {
            int cell = x.cell(basesAndWanted[i], basesAndWanted[i + 1]);
            x.set(cell, 0, 0);
            x.set(cell, 1, 0);
        }
        return x;
    }

    /** All that is in it, THE IMAGE too; it is spent then. REFUSALS are not looked at. */
    static String allOf(HarbourMud x, int judged) {
        StringBuilder look = new StringBuilder();
        lookAtHarbour(x, look);
        look.append(" row ").append(x.judge(judged));
        lookAtSettings(x, look);
        look.append(" text ").append(x.coast());
        lookAtCounts(x, look);
        look.append(" image ").append(x.restore());
        lookAtHarbour(x, look);
        lookAtSettings(x, look);
        return look.toString();
    }

    /** All that is in it but THE IMAGE, the TEXT and the ROW; it is spent then. */
    static String harbourOf(HarbourMud x) {
        StringBuilder look = new StringBuilder();
        lookAtHarbour(x, look);
        lookAtSettings(x, look);
        return look.toString();
    }

    private static void lookAtCounts(HarbourMud x, StringBuilder look) {
        for (int what = 0; what <= 9; what++) {
            look.append(' ').append(x.count(what));
        }
    }

    private static void lookAtHarbour(HarbourMud x, StringBuilder look) {
        lookAtCounts(x, look);
        int cells = x.count(0);
        for (int cell = 0; cell < cells; cell++) {
            look.append(" cell ").append(x.depth(cell)).append(' ').append(x.lacks(cell));
            for (int i = 0; i < 4; i++) {
                look.append(' ').append(x.tons(cell, i & 1, i < 2));
            }
        }
        look.append(" takes ").append(x.takes()).append(" cost ").append(x.cost(30));
    }

    /** Told by what they were, and THE MOON by its KINDS: the dredger takes at NEAPS alone then. */
    private static void lookAtSettings(HarbourMud x, StringBuilder look) {
        int cells = x.count(0);
        for (int i = 0; i < 4 * cells; i++) {
            look.append(' ').append(x.set(i / 4, i % 4, i % 4 == 3 ? 99 : 0));
        }
        look.append(" dredger");
        for (int what = 0; what <= 4; what++) {
            int[] values = {0, 8, 1, 0, 0};
            look.append(' ').append(x.dredger(what, values[what]));
        }
        look.append(" shut");
        for (int way = x.count(1) - 1; way >= 0; way--) {
            look.append(' ').append(x.shut(way, true));
        }
        look.append(" moon ").append(kindsOf(x, x.count(9)));
    }

    /** The KINDS of the next n TIDES, of a harbour with a CELL that LACKS and is not the DROP, by PLAN EBB. */
    static String kindsOf(HarbourMud x, int n) {
        StringBuilder kinds = new StringBuilder();
        for (int i = 0; i < n && x.count(0) > 0; i++) {
            kinds.append(x.takes() == -9 ? 's' : 'n');
            x.go(1);
        }
        return kinds.toString();
    }

    /** The call answers base + number; by it there is one REFUSAL more of that number, and nothing else changes. */
    static void refused(Supplier<HarbourMud> made, String call, ToLongFunction<HarbourMud> answer, long base, int number) {
        for (int judged = 0; judged <= 2; judged++) {
            refusedOnce(made, call, answer, base, number, judged);
        }
    }

    /** Likewise, but the ROW is looked at by its COST alone. */
    static void refusedOnce(Supplier<HarbourMud> made, String call, ToLongFunction<HarbourMud> answer, long base, int number) {
        refusedOnce(made, call, answer, base, number, 1);
    }

    private static void refusedOnce(Supplier<HarbourMud> made, String call, ToLongFunction<HarbourMud> answer, long base,
        int number, int judged) {
        HarbourMud x = made.get();
        HarbourMud alike = made.get();
        Checks.due(call, answer.applyAsLong(x), base + number);
        for (int i = 1; i <= 6; i++) {
            int more = i == -number ? 1 : 0;
            Checks.due("count(" + (10 + i) + ") behind " + call, x.count(10 + i), alike.count(10 + i) + more);
        }
        Checks.same("all there is behind " + call, allOf(x, judged), allOf(alike, judged));
    }

    static void refused(Supplier<HarbourMud> made, String call, ToLongFunction<HarbourMud> answer, int number) {
        refused(made, call, answer, 0, number);
    }

    /** The call is no REFUSAL and changes nothing. */
    static void changesNothing(Supplier<HarbourMud> made, String call, ToLongFunction<HarbourMud> answer) {
        for (int judged = 0; judged <= 2; judged++) {
            HarbourMud x = made.get();
            HarbourMud alike = made.get();
            answer.applyAsLong(x);
            for (int i = 1; i <= 6; i++) {
                Checks.due("count(" + (10 + i) + ") behind " + call, x.count(10 + i), alike.count(10 + i));
            }
            Checks.same("all there is behind " + call, allOf(x, judged), allOf(alike, judged));
        }
    }
}
