/** Promises 1, 4 to 13: a new object; CELLS, WAYS, RIVERS, THE MOON and tons come and are told. */
public final class BuildTest {
    public static void main(String[] args) {
        newObject();
        cells();
        settings();
        ways();
        waysTogether();
        shutting();
        rivers();
        moons();
        puts();
        putsAboveRoom();
        depths();
        Checks.end("BuildTest");
    }

    private static void newObject() {
        HarbourMud x = new HarbourMud();
        for (int what = 0; what <= 8; what++) {
            Checks.due("count(" + what + ")", x.count(what), 0);
        }
        Checks.due("count(9)", x.count(9), 1);
        for (int what = 11; what <= 16; what++) {
            Checks.due("count(" + what + ")", x.count(what), 0);
        }
        Checks.refused(x, "depth(0)", () -> x.depth(0), -1);
        Checks.refused(x, "restore()", x::restore, -3);
    }

    private static void cells() {
        HarbourMud x = new HarbourMud();
        Checks.refused(x, "cell(0, 100)", () -> x.cell(0, 100), -4);
        Checks.refused(x, "cell(100, -1)", () -> x.cell(100, -1), -4);
        Checks.refused(x, "cell(min, 0)", () -> x.cell(Integer.MIN_VALUE, 0), -4);
        Checks.refused(x, "cell(100, 0)", () -> x.cell(100, 0), -6);
        Checks.refused(x, "cell(1, 100)", () -> x.cell(1, 100), -6);
        Checks.refused(x, "cell(max, max)", () -> x.cell(Integer.MAX_VALUE, Integer.MAX_VALUE), -6);
        Checks.due("cell(1, 0)", x.cell(1, 0), 0);
        Checks.due("cell(99, 99)", x.cell(99, 99), 1);
        for (int i = 2; i < 8; i++) {
            Checks.due("cell(10, 10)", x.cell(10, 10), i);
        }
        Checks.refused(x, "the ninth cell", () -> x.cell(10, 10), -6);
        Checks.refused(x, "the ninth cell, below", () -> x.cell(0, 10), -4);
        Checks.due("depth(0)", x.depth(0), 1);
        Checks.due("depth(1)", x.depth(1), 99);
        Checks.due("lacks(0)", x.lacks(0), -1);
        Checks.due("tons of a new one", x.tons(7, 1, true) + x.tons(7, 0, false), 0);
    }

    private static void settings() {
        HarbourMud x = new HarbourMud();
        Checks.refused(x, "set(0, 0, 1) without cells", () -> x.set(0, 0, 1), -1);
        x.cell(30, 28);
        Checks.refused(x, "set(1, 4, -1)", () -> x.set(1, 4, -1), -1);
        Checks.refused(x, "set(-1, 0, 1)", () -> x.set(-1, 0, 1), -1);
        Checks.refused(x, "set(0, 4, -1)", () -> x.set(0, 4, -1), -2);
        Checks.refused(x, "set(0, -1, 101)", () -> x.set(0, -1, 101), -2);
        int[] first = {50, 20, 1, 28};
        int[] most = {100, 100, 99, 99};
        for (int what = 0; what < 4; what++) {
            int w = what;
            String call = "set(0, " + what + ", ";
            Checks.refused(x, call + "-1)", () -> x.set(0, w, -1), -4);
            Checks.refused(x, call + "above)", () -> x.set(0, w, most[w] + 1), -6);
            Checks.due(call + "most)", x.set(0, what, most[what]), first[what]);
            Checks.due(call + "0)", x.set(0, what, 0), most[what]);
            Checks.due(call + "7)", x.set(0, what, 7), 0);
        }
        for (int what = 0; what < 4; what++) {
            Checks.due("set(0, " + what + ", 8): each its own", x.set(0, what, 8), 7);
        }
        Checks.due("lacks(0)", x.lacks(0), 8 - 30);
        x.cell(10, 10);
        Checks.due("set(1, 0, 3): each cell its own", x.set(1, 0, 3), 50);
        Checks.due("set(0, 0, 3)", x.set(0, 0, 3), 8);
    }

    private static void ways() {
        HarbourMud x = new HarbourMud();
        Checks.refused(x, "way(0, 8, 0, 5) without cells", () -> x.way(0, 8, 0, 5), -1);
        x.cell(30, 20);
        x.cell(30, 20);
        int[][] nobody = {{-1, 0, 0}, {2, 0, 0}, {8, 0, 0}, {0, -1, 0}, {0, 2, 0}, {0, 7, 0}, {0, 9, 0}, {1, 1, 0},
            {8, 8, 0}, {0, 1, 1}, {0, 1, 11}, {0, 1, 20}, {0, 1, 90}, {0, 1, 120}, {0, 1, 200}, {0, 1, -100},
            {0, 1, -10}, {0, 1, -1}, {0, 1, 101}, {0, 1, 1000}, {0, 1, Integer.MIN_VALUE}, {0, 1, Integer.MAX_VALUE}};
        for (int[] w : nobody) {
            String call = "way(" + w[0] + ", " + w[1] + ", " + w[2] + ", ";
            Checks.refused(x, call + "5)", () -> x.way(w[0], w[1], w[2], 5), -1);
            Checks.refused(x, call + "0)", () -> x.way(w[0], w[1], w[2], 0), -1);
            Checks.refused(x, call + "101)", () -> x.way(w[0], w[1], w[2], 101), -1);
        }
        Checks.refused(x, "way(0, 1, 0, 0)", () -> x.way(0, 1, 0, 0), -4);
        Checks.refused(x, "way(0, 1, 0, 101)", () -> x.way(0, 1, 0, 101), -6);
        Checks.due("way(0, 1, 110, 1)", x.way(0, 1, 110, 1), 0);
        for (int i = 1; i < 24; i++) {
            Checks.due("way(1, 8, 0, 1)", x.way(1, 8, 0, 1), i);
        }
        Checks.refused(x, "the 25th way", () -> x.way(0, 1, 0, 1), -6);
        Checks.refused(x, "the 25th way, too many together", () -> x.way(1, 0, 0, 100), -6);
        Checks.refused(x, "the 25th way, below", () -> x.way(1, 0, 0, 0), -4);
    }

    private static void waysTogether() {
        HarbourMud x = new HarbourMud();
        x.cell(30, 20);
        x.cell(30, 20);
        Checks.due("way(0, 1, 0, 60)", x.way(0, 1, 0, 60), 0);
        Checks.refused(x, "way(0, 8, 0, 41)", () -> x.way(0, 8, 0, 41), -3);
        x.shut(0, true);
        Checks.refused(x, "way(0, 8, 0, 41) beside a shut one", () -> x.way(0, 8, 0, 41), -3);
        Checks.due("way(0, 8, 0, 40)", x.way(0, 8, 0, 40), 1);
        Checks.refused(x, "way(0, 8, 0, 1)", () -> x.way(0, 8, 0, 1), -3);
        Checks.due("another kind", x.way(0, 1, 100, 100), 2);
        Checks.due("another stuff", x.way(0, 1, 10, 100), 3);
        Checks.due("both", x.way(0, 1, 110, 100), 4);
        Checks.due("another cell", x.way(1, 0, 0, 100), 5);
    }

    private static void shutting() {
        HarbourMud x = new HarbourMud();
        x.cell(30, 20);
        Checks.refused(x, "shut(0, true) without ways", () -> x.shut(0, true), -1);
        x.way(0, 8, 0, 100);
        Checks.refused(x, "shut(1, true)", () -> x.shut(1, true), -1);
        Checks.refused(x, "shut(-1, false)", () -> x.shut(-1, false), -1);
        x.set(0, 0, 0);
        x.set(0, 1, 0);
        x.put(0, 0, true, 100);
        Checks.due("shut(0, false)", x.shut(0, false), 0);
        Checks.due("shut(0, true)", x.shut(0, true), 1);
        Checks.due("shut(0, true) again", x.shut(0, true), 0);
        x.go(1);
        Checks.due("nothing goes along a shut way", x.tons(0, 0, true), 100);
        Checks.due("shut(0, false) then", x.shut(0, false), 1);
        x.go(1);
        Checks.due("all goes along an open one", x.tons(0, 0, true), 0);
        Checks.due("count(5)", x.count(5), 100);
        HarbourMud y = new HarbourMud();
        y.cell(30, 20);
        y.way(0, 8, 0, 100);
        Checks.due("at once", y.shut(0, true), 1);
    }

    private static void rivers() {
        HarbourMud x = new HarbourMud();
        Checks.refused(x, "river(0, 0, 1) without cells", () -> x.river(0, 0, 1), -1);
        x.cell(30, 20);
        Checks.refused(x, "river(1, 0, 0)", () -> x.river(1, 0, 0), -1);
        Checks.refused(x, "river(-1, 0, 5)", () -> x.river(-1, 0, 5), -1);
        Checks.refused(x, "river(8, 0, 5)", () -> x.river(8, 0, 5), -1);
        Checks.refused(x, "river(0, 2, 1000)", () -> x.river(0, 2, 1000), -1);
        Checks.refused(x, "river(0, -1, 5)", () -> x.river(0, -1, 5), -1);
        Checks.refused(x, "river(0, 0, 0)", () -> x.river(0, 0, 0), -4);
        Checks.refused(x, "river(0, 0, 1000)", () -> x.river(0, 0, 1000), -6);
        Checks.due("river(0, 0, 1)", x.river(0, 0, 1), 0);
        Checks.due("river(0, 1, 999)", x.river(0, 1, 999), 1);
        x.go(1);
        Checks.due("sand it brought", x.tons(0, 0, true), 1);
        Checks.due("mud it brought", x.tons(0, 1, true) + x.tons(0, 1, false), 999);
        for (int i = 2; i < 8; i++) {
            Checks.due("river(0, 0, 5)", x.river(0, 0, 5), i);
        }
        Checks.refused(x, "the ninth river", () -> x.river(0, 0, 5), -6);
        Checks.refused(x, "the ninth river, below", () -> x.river(0, 0, 0), -4);
        Checks.refused(x, "the ninth river, nobody", () -> x.river(1, 0, 0), -1);
    }

    private static void moons() {
        HarbourMud x = new HarbourMud();
        Checks.refused(x, "moon(0, 0)", () -> x.moon(0, 0), -4);
        Checks.refused(x, "moon(min, -1)", () -> x.moon(Integer.MIN_VALUE, -1), -4);
        Checks.refused(x, "moon(29, 0)", () -> x.moon(29, 0), -6);
        Checks.due("moon(28, 0)", x.moon(28, 0), 1);
        Checks.due("moon(3, 5)", x.moon(3, 5), 28);
        Checks.due("count(9)", x.count(9), 3);
        x.cell(90, 0);
        x.set(0, 0, 0);
        x.set(0, 1, 50);
        x.put(0, 0, false, 800);
        // NEAP, SPRING, NEAP, and round again: it is stirred at the second of three alone
        int[] settled = {800, 400, 400, 400, 200, 200, 200, 100};
        for (int tide = 0; tide < settled.length; tide++) {
            x.go(1);
            Checks.due("settled behind tide " + tide, x.tons(0, 0, false), settled[tide]);
        }
        Checks.due("moon(1, 0)", x.moon(1, 0), 3);
        x.go(1);
        Checks.due("a spring", x.tons(0, 0, false), 50);
        Checks.due("moon(1, -2): bits behind n tell nothing", x.moon(1, -2), 1);
        x.go(1);
        Checks.due("a spring still", x.tons(0, 0, false), 25);
    }

    private static void puts() {
        HarbourMud x = new HarbourMud();
        Checks.refused(x, "put(0, 0, true, 5) without cells", () -> x.put(0, 0, true, 5), -1);
        x.cell(30, 20);
        Checks.refused(x, "put(1, 0, true, -10000)", () -> x.put(1, 0, true, -10000), -1);
        Checks.refused(x, "put(-1, 0, true, 5)", () -> x.put(-1, 0, true, 5), -1);
        Checks.refused(x, "put(0, 2, true, 10000)", () -> x.put(0, 2, true, 10000), -1);
        Checks.refused(x, "put(0, -1, true, 5)", () -> x.put(0, -1, true, 5), -1);
        Checks.refused(x, "put(0, 0, true, -10000)", () -> x.put(0, 0, true, -10000), -4);
        Checks.refused(x, "put(0, 0, true, 10000)", () -> x.put(0, 0, true, 10000), -6);
        Checks.due("put(0, 0, true, 9999)", x.put(0, 0, true, 9999), 9999);
        Checks.due("put(0, 0, false, 10)", x.put(0, 0, false, 10), 10);
        Checks.due("put(0, 1, true, 20)", x.put(0, 1, true, 20), 20);
        Checks.due("put(0, 1, false, 0)", x.put(0, 1, false, 0), 0);
        Checks.due("put(0, 0, false, -3)", x.put(0, 0, false, -3), 7);
        Checks.due("put(0, 0, false, -9999)", x.put(0, 0, false, -9999), 0);
        Checks.due("tons(0, 0, true)", x.tons(0, 0, true), 9999);
        Checks.due("tons(0, 1, true)", x.tons(0, 1, true), 20);
        Checks.due("tons(0, 0, false)", x.tons(0, 0, false), 0);
        Checks.refused(x, "tons(1, 0, true)", () -> x.tons(1, 0, true), -1);
        Checks.refused(x, "tons(-1, 0, true)", () -> x.tons(-1, 0, true), -1);
        Checks.refused(x, "tons(0, 2, true)", () -> x.tons(0, 2, true), -1);
        Checks.refused(x, "tons(0, -1, true)", () -> x.tons(0, -1, true), -1);
        Checks.due("count(4)", x.count(4), 10019);
    }

    private static void putsAboveRoom() {
        HarbourMud x = new HarbourMud();
        x.cell(30, 20);
        for (int i = 1; i <= 100; i++) {
            x.put(0, 0, true, 9999);
        }
        Checks.due("put(0, 0, true, 100)", x.put(0, 0, true, 100), 1000000);
        Checks.refused(x, "put(0, 0, true, 1)", () -> x.put(0, 0, true, 1), -6);
        Checks.due("put(0, 0, true, 0)", x.put(0, 0, true, 0), 1000000);
        Checks.due("put(0, 0, true, -1)", x.put(0, 0, true, -1), 999999);
        Checks.due("each its own", x.put(0, 1, true, 9999), 9999);
        x.put(0, 0, true, 1);
        x.river(0, 0, 999);
        x.set(0, 0, 0);
        x.go(1);
        Checks.due("tons(0, 0, true)", x.tons(0, 0, true), 1000999);
        Checks.refused(x, "put(0, 0, true, -998)", () -> x.put(0, 0, true, -998), -6);
        Checks.due("put(0, 0, true, -999)", x.put(0, 0, true, -999), 1000000);
    }

    private static void depths() {
        HarbourMud x = new HarbourMud();
        x.cell(5, 4);
        Checks.refused(x, "depth(1)", () -> x.depth(1), -1);
        Checks.refused(x, "depth(-1)", () -> x.depth(-1), -1);
        Checks.refused(x, "lacks(1)", () -> x.lacks(1), Checks.FAR, -1);
        Checks.refused(x, "lacks(-1)", () -> x.lacks(-1), Checks.FAR, -1);
        Checks.due("lacks(0)", x.lacks(0), -1);
        x.put(0, 0, false, 50);
        x.put(0, 1, false, 49);
        x.put(0, 1, true, 5000);
        Checks.due("depth(0) with 99 settled", x.depth(0), 5);
        x.put(0, 1, false, 1);
        Checks.due("depth(0) with 100 of both", x.depth(0), 4);
        Checks.due("lacks(0)", x.lacks(0), 0);
        x.put(0, 1, false, 100);
        Checks.due("lacks(0)", x.lacks(0), 1);
        x.put(0, 1, false, 9000);
        Checks.due("depth(0) is 0 at least", x.depth(0), 0);
        Checks.due("lacks(0)", x.lacks(0), 4);
    }
}
