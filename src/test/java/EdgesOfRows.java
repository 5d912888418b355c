import java.util.function.Supplier;

/** The Terms' ROW of tides; promises 26 and 27. */
final class EdgesOfRows {
    private static final int SAND = 0;
    private static final int MUD = 1;
    private static final boolean LOOSE = true;
    private static final boolean SETTLED = false;

    private static final int CAP = 0;
    private static final int DROP = 1;
    private static final int PLAN = 2;
    private static final int TOLD_CELL = 3;
    private static final int FEE = 4;

    private EdgesOfRows() {
    }

    static void look() {
        tides();
        takesFromThatCell();
        firstEmpty();
        costs();
        feet();
        rows();
        judges();
        judgesRefused();
    }

    private static HarbourMud rowed(HarbourMud x, int... bytes) {
        for (int b : bytes) {
            x.row(b);
        }
        return x;
    }

    private static int judged(HarbourMud x, int what, int... bytes) {
        return rowed(x, bytes).judge(what);
    }

    private static int[] times(int n, int v) {
        int[] bytes = new int[n];
        java.util.Arrays.fill(bytes, v);
        return bytes;
    }

    /** Two CELLS of which nothing is wanted; so much SAND is SETTLED in 0; CAP 10. */
    private static HarbourMud holding(int tons) {
        HarbourMud x = Harbours.still(30, 0, 30, 0);
        x.put(0, SAND, SETTLED, tons);
        x.dredger(CAP, 10);
        return x;
    }

    private static void tides() {
        Sentences.quoteTerms("A ROW of tides (bytes, for each TIDE from now on a CELL, or 9: nothing is taken; 28 at most), in mind:");
        Checks.due("28 times 10 are there", judged(holding(280), 0, times(28, 0)), -9);
        Checks.due("the last takes 1", judged(holding(271), 0, times(28, 0)), -9);
        Checks.due("nothing is left for the 28th", judged(holding(270), 0, times(28, 0)), 27);
        Checks.due("27 TIDES of it", judged(holding(270), 0, times(27, 0)), -9);
        Checks.due("28 TIDES COST", judged(holding(280), 1, times(28, 0)), 28 * 30);
        Checks.due("nothing is taken at 9", judged(holding(280), 1, times(28, 9)), 0);
        Checks.due("nothing is taken at 9 alone", judged(holding(280), 1, 0, 9, 9, 0, 9), 60);
        HarbourMud moon = Harbours.still(30, 30);
        moon.moon(3, 4);
        moon.set(0, 1, 100);
        moon.put(0, MUD, SETTLED, 100);
        moon.go(2);
        moon.put(0, MUD, LOOSE, -100);
        moon.put(0, MUD, SETTLED, 100);
        Checks.due("from now on: a NEAP comes and nothing is stirred", judged(moon, 2, 9), 1);
        Checks.due("then a SPRING", judged(moon, 2, 9, 9), 0);
        for (int what = 0; what <= 2; what++) {
            HarbourMud x = holding(280);
            rowed(x, times(28, 0)).judge(what);
            Checks.due("in mind: TIDES", x.count(3), 0);
            Checks.due("in mind: taken", x.count(6), 0);
            Checks.due("in mind: gone", x.count(5), 0);
            Checks.due("in mind: SETTLED", x.tons(0, SAND, SETTLED), 280);
        }
    }

    private static void takesFromThatCell() {
        Sentences.quoteTerms("at each the dredger takes from that CELL (by CAP, to the DROP):");
        for (int plan = 0; plan <= 4; plan++) {
            HarbourMud x = Harbours.still(30, 0, 30, 99, 30, 0);
            x.put(0, SAND, SETTLED, 100);
            x.put(1, SAND, SETTLED, 100);
            x.dredger(CAP, 60);
            x.dredger(PLAN, plan);
            x.dredger(TOLD_CELL, 1);
            x.dredger(DROP, 2);
            x.set(1, 2, 0);
            Checks.due("60 and 40 by PLAN " + plan, judged(x, 1, 0, 0, 0), 100);
            Checks.due("no PLAN takes at 9", judged(x, 1, 9, 9), 0);
            Checks.due("then from 1", judged(x, 0, 0, 0, 1, 1, 1), 4);
        }
        HarbourMud y = Harbours.still(30, 0, 30, 30);
        y.set(1, 0, 100);
        y.put(0, MUD, SETTLED, 100);
        y.dredger(CAP, 100);
        y.dredger(DROP, 1);
        Checks.due("LOOSE at the DROP behind the TIDE", judged(y, 2, 0), 0);
        Checks.due("SETTLED there behind the next", judged(y, 2, 0, 9), 1);
    }

    private static void firstEmpty() {
        Sentences.quoteTerms("the first at which nothing is taken (0 tons) though a CELL is told, -9 none (what 0);");
        Checks.due("the first TIDE", judged(holding(0), 0, 0), 0);
        Checks.due("1 ton is something", judged(holding(1), 0, 0), -9);
        Checks.due("the second TIDE", judged(holding(1), 0, 0, 0), 1);
        Checks.due("the first of several", judged(holding(10), 0, 0, 1, 1, 0), 1);
        Checks.due("9 tells no CELL", judged(holding(0), 0, 9, 9), -9);
        Checks.due("the first that tells one", judged(holding(0), 0, 9, 9, 0), 2);
        HarbourMud x = holding(100);
        x.dredger(CAP, 0);
        Checks.due("nothing by CAP 0", judged(x, 0, 0), 0);
        HarbourMud y = holding(100);
        y.dredger(DROP, 0);
        Checks.due("nothing from the DROP", judged(y, 0, 9, 0), 1);
        HarbourMud z = holding(0);
        z.put(0, MUD, LOOSE, 100);
        Checks.due("nothing that is LOOSE", judged(z, 0, 0), 0);
        z.set(0, 0, 1);
        Checks.due("what settles on the TIDE", judged(z, 0, 0), -9);
        HarbourMud mud = holding(0);
        mud.put(0, MUD, SETTLED, 1);
        Checks.due("MUD alone", judged(mud, 0, 0), -9);
    }

    private static void costs() {
        Sentences.quoteTerms("COST of them all (1);");
        HarbourMud x = holding(15);
        Checks.due("one TIDE", judged(x, 1, 0), 30);
        Checks.due("10 and 5 and none", judged(x, 1, 0, 0, 0), 45);
        x.dredger(DROP, 1);
        x.dredger(FEE, 99);
        Checks.due("to a CELL", judged(x, 1, 0, 0), 15 * 99);
        x.set(1, 3, 31);
        x.set(1, 2, 99);
        Checks.due("a foot LACKS behind each", judged(x, 1, 9, 9, 9), 3 * 99);
        HarbourMud most = Harbours.still(1, 99, 1, 99, 1, 99, 1, 99, 1, 99, 1, 99, 1, 99, 1, 99);
        for (int cell = 0; cell < 8; cell++) {
            most.set(cell, 2, 99);
            for (int i = 0; i < 4; i++) {
                most.put(cell, MUD, SETTLED, 9999);
            }
        }
        most.dredger(CAP, 999);
        most.dredger(FEE, 99);
        Checks.due("the most", judged(most, 1, times(28, 7)), 28 * (8 * 99 * 99 + 999 * 101));
        Checks.due("the least", judged(holding(0), 1, 0), 0);
    }

    private static void feet() {
        Sentences.quoteTerms("behind them feet that all CELLS LACK above 0 together (2).");
        HarbourMud x = Harbours.still(30, 31, 30, 30, 30, 0, 30, 33);
        x.set(0, 2, 99);
        Checks.due("1 and 3, none of 0 and below, whatever the PRICE", judged(x, 2, 9), 4);
        x.put(1, MUD, SETTLED, 200);
        x.dredger(CAP, 100);
        Checks.due("2 more", judged(x, 2, 9), 6);
        Checks.due("behind one TIDE", judged(x, 2, 1), 5);
        Checks.due("behind two", judged(x, 2, 1, 1), 4);
        Checks.due("behind all", judged(x, 2, 9, 1, 9, 1, 9), 4);
        HarbourMud most = Harbours.still(1, 99, 1, 99, 1, 99, 1, 99, 1, 99, 1, 99, 1, 99, 1, 99);
        for (int cell = 0; cell < 8; cell++) {
            most.put(cell, MUD, SETTLED, 100);
        }
        Checks.due("the most", judged(most, 2, 9), 8 * 99);
    }

    private static void rows() {
        Sentences.quote(26, "A byte (0 .. 9) more of the ROW: how many.");
        HarbourMud x = new HarbourMud();
        for (int i = 1; i <= 28; i++) {
            Checks.due("row(" + i % 10 + ")", x.row(i % 10), i);
            Checks.due("count(8)", x.count(8), i);
        }
        Sentences.quote(26, "-4; -6 (9; 28, too).");
        for (int v : new int[] {Integer.MIN_VALUE, -1}) {
            Harbours.refused(Harbours::some, "row(" + v + ")", y -> y.row(v), -4);
            Harbours.refused(Harbours::full, "row(" + v + "), a 29th", y -> y.row(v), -4);
        }
        for (int v : new int[] {10, Integer.MAX_VALUE}) {
            Harbours.refused(Harbours::some, "row(" + v + ")", y -> y.row(v), -6);
            Harbours.refused(Harbours::full, "row(" + v + "), a 29th", y -> y.row(v), -6);
        }
        for (int v : new int[] {0, 9}) {
            Harbours.refused(Harbours::full, "row(" + v + "), a 29th", y -> y.row(v), -6);
        }
        HarbourMud z = Harbours.full();
        z.judge(0);
        Checks.due("room again behind judge()", z.row(9), 1);
    }

    private static void judges() {
        Sentences.quote(27, "The ROW, which has none then (what 0, 1, 2; -9).");
        for (int what = 0; what <= 2; what++) {
            HarbourMud x = holding(100);
            Checks.yes("no REFUSAL", judged(x, what, 0, 9) != -2);
            Checks.due("the ROW has none", x.count(8), 0);
            Checks.due("an empty ROW", x.judge(what), what == 0 ? -9 : 0);
            Checks.due("-9 is no REFUSAL", x.count(11) + x.count(12) + x.count(13), 0);
            Checks.due("the next ROW is a new one", x.row(9), 1);
        }
        HarbourMud lacks = Harbours.still(30, 35);
        Checks.due("an empty ROW: feet as they LACK now", lacks.judge(2), 5);
        Checks.due("an empty ROW COSTS nothing", lacks.judge(1), 0);
        HarbourMud last = Harbours.still(9, 0, 9, 0, 9, 0, 9, 0, 9, 0, 9, 0, 9, 0, 9, 0);
        Checks.due("the last CELL is told", judged(last, 0, 9, 7), 1);
        Checks.due("the first CELL is told", judged(last, 0, 9, 9, 0), 2);
    }

    private static void judgesRefused() {
        Sentences.quote(27, "-2; -1 a CELL in it that there is not; -3 no CELLS (the ROW stays for all).");
        Supplier<HarbourMud> stranger = () -> rowed(Harbours.one(), 0, 9, 1);
        Supplier<HarbourMud> sea = () -> rowed(Harbours.still(9, 0, 9, 0, 9, 0, 9, 0, 9, 0, 9, 0, 9, 0, 9, 0), 8);
        Supplier<HarbourMud> toldWithoutCells = () -> rowed(Harbours.none(), 9, 0);
        Supplier<HarbourMud> nothingTold = () -> rowed(Harbours.none(), 9, 9);
        for (int what : new int[] {Integer.MIN_VALUE, -1, 3, Integer.MAX_VALUE}) {
            Harbours.refused(Harbours::some, "judge(" + what + ")", x -> x.judge(what), -2);
            Harbours.refused(Harbours::none, "judge(" + what + ") without CELLS", x -> x.judge(what), -2);
            Harbours.refused(stranger, "judge(" + what + ") of a CELL that is not", x -> x.judge(what), -2);
            Harbours.refused(toldWithoutCells, "judge(" + what + ") of both", x -> x.judge(what), -2);
        }
        for (int what = 0; what <= 2; what++) {
            int w = what;
            Harbours.refused(stranger, "judge(" + w + ") of a CELL that is not", x -> x.judge(w), -1);
            Harbours.refused(sea, "judge(" + w + ") of the sea", x -> x.judge(w), -1);
            Harbours.refused(toldWithoutCells, "judge(" + w + ") without CELLS, one told", x -> x.judge(w), -1);
            Harbours.refused(nothingTold, "judge(" + w + ") without CELLS, none told", x -> x.judge(w), -3);
            Harbours.refused(Harbours::none, "judge(" + w + ") without CELLS, no ROW", x -> x.judge(w), -3);
        }
        HarbourMud x = stranger.get();
        x.judge(0);
        Checks.due("the ROW stays", x.count(8), 3);
        x.cell(9, 9);
        Checks.due("with the CELL it is judged", x.judge(0), 0);
        HarbourMud y = nothingTold.get();
        y.judge(1);
        Checks.due("the ROW stays", y.count(8), 2);
        y.cell(9, 9);
        Checks.due("with a CELL it is judged", y.judge(1), 0);
    }
}
