/** Promises 1 and 4 to 13: a new object; CELLS, WAYS, RIVERS, THE MOON and tons come and are told. */
final class EdgesOfBuilding {
    private static final int SAND = 0;
    private static final int MUD = 1;
    private static final boolean LOOSE = true;
    private static final boolean SETTLED = false;

    private EdgesOfBuilding() {
    }

    static void look() {
        newObject();
        cells();
        settings();
        ways();
        shutting();
        rivers();
        moons();
        puts();
        putsToTheMost();
        tons();
        depths();
        lacks();
    }

    private static void newObject() {
        Sentences.quote(1, "No CELLS.");
        HarbourMud x = new HarbourMud();
        for (int what = 0; what <= 16; what++) {
            Checks.due("count(" + what + ")", x.count(what), what == 9 ? 1 : what == 10 ? -9 : 0);
        }
        Checks.due("depth(0)", x.depth(0), -1);
        Checks.due("lacks(0)", x.lacks(0), Checks.FAR - 1);
        Checks.due("go(1)", x.go(1), -3);
        HarbourMud y = new HarbourMud();
        Checks.due("objects know nothing of one another", y.count(11) + y.count(13), 0);
        Checks.due("nor when one has CELLS", Harbours.full().count(0) + new HarbourMud().count(0), 8);
    }

    private static void cells() {
        Sentences.quote(4, "A CELL: its number.");
        HarbourMud x = new HarbourMud();
        for (int cell = 0; cell < 8; cell++) {
            Checks.due("cell(99, 99)", x.cell(99, 99), cell);
            Checks.due("count(0)", x.count(0), cell + 1);
        }
        Sentences.quote(4, "-4 (either);");
        int[][] below = {{0, 0}, {-1, 0}, {Integer.MIN_VALUE, 0}, {1, -1}, {1, Integer.MIN_VALUE}, {0, -1}, {0, 100}, {100, -1},
            {Integer.MAX_VALUE, -1}, {0, Integer.MAX_VALUE}};
        for (int[] b : below) {
            Harbours.refused(Harbours::some, "cell(" + b[0] + ", " + b[1] + ")", y -> y.cell(b[0], b[1]), -4);
            Harbours.refused(Harbours::full, "a ninth, cell(" + b[0] + ", " + b[1] + ")", y -> y.cell(b[0], b[1]), -4);
        }
        Sentences.quote(4, "-6 (either; 8, too).");
        int[][] above = {{100, 0}, {Integer.MAX_VALUE, 0}, {1, 100}, {1, Integer.MAX_VALUE}, {100, 100}};
        for (int[] a : above) {
            Harbours.refused(Harbours::some, "cell(" + a[0] + ", " + a[1] + ")", y -> y.cell(a[0], a[1]), -6);
        }
        Harbours.refused(Harbours::full, "a ninth", y -> y.cell(1, 0), -6);
    }

    private static void settings() {
        Sentences.quote(5, "SETTLES (what 0), STIRS (1), PRICE (2), WANTED (3) of a CELL: what it was.");
        int[] first = {50, 20, 1, 28};
        int[] most = {100, 100, 99, 99};
        HarbourMud x = new HarbourMud();
        x.cell(40, 28);
        x.cell(40, 28);
        for (int what = 0; what < 4; what++) {
            int was = first[what];
            for (int v : new int[] {0, 1, most[what] - 1, most[what]}) {
                Checks.due("set(1, " + what + ", " + v + ")", x.set(1, what, v), was);
                was = v;
            }
            Checks.due("the other CELL's", x.set(0, what, 10 + what), first[what]);
        }
        for (int what = 0; what < 4; what++) {
            Checks.due("each its own", x.set(1, what, 5), most[what]);
            Checks.due("each its own", x.set(0, what, 5), 10 + what);
        }
        Checks.due("lacks(0) by WANTED", x.lacks(0), 5 - 40);
        x.set(0, 3, 0);
        Checks.due("lacks(0) by WANTED 0", x.lacks(0), -40);
        x.set(0, 3, 99);
        Checks.due("lacks(0) by WANTED 99", x.lacks(0), 59);
        Sentences.quote(5, "-1; -2; -4; -6.");
        Harbours.refused(Harbours::some, "set(3, 4, -1)", y -> y.set(3, 4, -1), -1);
        Harbours.refused(Harbours::some, "set(0, 4, -1)", y -> y.set(0, 4, -1), -2);
        Harbours.refused(Harbours::some, "set(0, -1, 101)", y -> y.set(0, -1, 101), -2);
        for (int what = 0; what < 4; what++) {
            int w = what;
            Harbours.refused(Harbours::some, "set(0, " + w + ", -1)", y -> y.set(0, w, -1), -4);
            Harbours.refused(Harbours::some, "set(0, " + w + ", above)", y -> y.set(0, w, most[w] + 1), -6);
            Harbours.refused(Harbours::full, "set(8, " + w + ", 1)", y -> y.set(8, w, 1), -1);
        }
    }

    private static void ways() {
        Sentences.quote(6, "A WAY (told: 100 times the KIND, 10 times the STUFF, and 0): its number.");
        HarbourMud x = Harbours.still(30, 0, 30, 0);
        int[] told = {0, 10, 100, 110};
        for (int i = 0; i < 4; i++) {
            Checks.due("way(0, 1, " + told[i] + ", 100)", x.way(0, 1, told[i], 100), i);
        }
        for (int t : new int[] {1, 9, 11, 19, 20, 90, 99, 101, 109, 111, 120, 190, 200, 210, 1000, 1010, -1, -10, -90, -100, -110,
            Integer.MIN_VALUE, Integer.MAX_VALUE, 2147483600, -2147483600}) {
            Harbours.refused(Harbours::some, "way(2, 1, " + t + ", 1)", y -> y.way(2, 1, t, 1), -1);
        }
        Sentences.quote(6, "-1 (one CELL twice, too); -4; -6 (100; 24, too); -3 more than 100 together.");
        Harbours.refused(Harbours::some, "one CELL twice, and 0", y -> y.way(1, 1, 0, 0), -1);
        Harbours.refused(Harbours::some, "one CELL twice, and 101", y -> y.way(1, 1, 0, 101), -1);
        Harbours.refused(Harbours::full, "one CELL twice, and the 25th", y -> y.way(7, 7, 0, 1), -1);
        Harbours.refused(Harbours::some, "0 of 60 there", y -> y.way(0, 2, 0, 0), -4);
        Harbours.refused(Harbours::full, "0, and the 25th", y -> y.way(0, 1, 0, 0), -4);
        Harbours.refused(Harbours::some, "101, and more than 100 together", y -> y.way(0, 2, 0, 101), -6);
        Harbours.refused(Harbours::full, "the 25th", y -> y.way(0, 1, 110, 1), -6);
        Harbours.refused(Harbours::full, "the 25th, and more than 100 together", y -> y.way(0, 1, 0, 5), -6);
        Harbours.refused(Harbours::some, "more than 100 together", y -> y.way(0, 2, 0, 41), -3);
        Checks.due("100 together", Harbours.some().way(0, 2, 0, 40), 4);
        // the 24th may be one too many of its kind, though there is room
        HarbourMud z = Harbours.still(30, 0, 30, 0);
        for (int i = 0; i < 23; i++) {
            z.way(0, 1, 0, 4);
        }
        Checks.due("92 and 9", z.way(0, 1, 0, 9), -3);
        Checks.due("92 and 8, the 24th", z.way(0, 1, 0, 8), 23);
    }

    private static void shutting() {
        Sentences.quote(7, "A WAY is SHUT, or not: 1; 0 it was so.");
        HarbourMud x = Harbours.full();
        for (int way : new int[] {0, 1, 22, 23}) {
            Checks.due("not SHUT at first", x.shut(way, false), 0);
            Checks.due("SHUT", x.shut(way, true), 1);
            Checks.due("SHUT again", x.shut(way, true), 0);
            Checks.due("not SHUT", x.shut(way, false), 1);
            Checks.due("not SHUT again", x.shut(way, false), 0);
            Checks.due("SHUT", x.shut(way, true), 1);
        }
        for (int way = 2; way < 22; way++) {
            Checks.due("the others are as they were", x.shut(way, false), 0);
        }
        Checks.due("there are as many WAYS", x.count(1), 24);
        Sentences.quote(7, "-1.");
        for (boolean is : new boolean[] {false, true}) {
            for (int way : new int[] {Integer.MIN_VALUE, -1, 4, 24, 31, 32, 33, Integer.MAX_VALUE}) {
                Harbours.refused(Harbours::some, "shut(" + way + ", " + is + ")", y -> y.shut(way, is), -1);
            }
            Harbours.refused(Harbours::full, "shut(24, " + is + ")", y -> y.shut(24, is), -1);
            Harbours.refused(Harbours::one, "shut(0, " + is + ") without WAYS", y -> y.shut(0, is), -1);
            Harbours.refused(Harbours::none, "shut(0, " + is + ") without CELLS", y -> y.shut(0, is), -1);
        }
    }

    private static void rivers() {
        Sentences.quote(8, "A RIVER: its number.");
        HarbourMud x = Harbours.one();
        for (int river = 0; river < 8; river++) {
            Checks.due("river(0, 0, 1)", x.river(0, river & 1, river == 0 ? 1 : 999), river);
        }
        Sentences.quote(8, "-1; -4; -6 (999; 8, too).");
        Harbours.refused(Harbours::some, "river(3, 0, 0)", y -> y.river(3, 0, 0), -1);
        Harbours.refused(Harbours::some, "river(0, 2, 1000)", y -> y.river(0, 2, 1000), -1);
        Harbours.refused(Harbours::full, "river(8, 0, 1)", y -> y.river(8, 0, 1), -1);
        Harbours.refused(Harbours::none, "river(0, 0, 1) without CELLS", y -> y.river(0, 0, 1), -1);
        Harbours.refused(Harbours::some, "river(0, 0, 0)", y -> y.river(0, 0, 0), -4);
        Harbours.refused(Harbours::some, "river(0, 0, -999)", y -> y.river(0, 0, -999), -4);
        Harbours.refused(Harbours::full, "river(0, 0, 0), a ninth", y -> y.river(0, 0, 0), -4);
        Harbours.refused(Harbours::some, "river(0, 0, 1000)", y -> y.river(0, 0, 1000), -6);
        Harbours.refused(Harbours::full, "river(0, 0, 1), a ninth", y -> y.river(0, 0, 1), -6);
    }

    private static void moons() {
        Sentences.quote(9, "THE MOON becomes n KINDS (1 .. 28), told as bits, the first the lowest: how many there were.");
        HarbourMud x = Harbours.still(1, 99);
        x.dredger(2, 1);
        Checks.due("moon(28, ..)", x.moon(28, 0x8000001), 1);
        Checks.due("count(9)", x.count(9), 28);
        Checks.same("the first and the last", Harbours.kindsOf(x, 28), "n" + "s".repeat(26) + "n");
        Checks.due("moon(1, 0)", x.moon(1, 0), 28);
        Checks.due("count(9)", x.count(9), 1);
        Checks.same("a SPRING", Harbours.kindsOf(x, 3), "sss");
        Checks.due("moon(4, ..): what is behind the fourth tells nothing", x.moon(4, -16), 1);
        Checks.same("SPRINGS", Harbours.kindsOf(x, 8), "ssssssss");
        Checks.due("moon(28, -1)", x.moon(28, -1), 4);
        Checks.same("NEAPS", Harbours.kindsOf(x, 30), "n".repeat(30));
        Checks.due("without CELLS", new HarbourMud().moon(28, 0), 1);
        Sentences.quote(9, "-4; -6.");
        for (int n : new int[] {0, -1, Integer.MIN_VALUE}) {
            Harbours.refused(Harbours::some, "moon(" + n + ", 1)", y -> y.moon(n, 1), -4);
        }
        for (int n : new int[] {29, 32, Integer.MAX_VALUE}) {
            Harbours.refused(Harbours::some, "moon(" + n + ", 1)", y -> y.moon(n, 1), -6);
        }
    }

    private static void puts() {
        Sentences.quote(10, "So many tons more (-9999 .. 9999; below 0: less, 0 at least) are LOOSE, or SETTLED: how many then.");
        for (int i = 0; i < 4; i++) {
            int stuff = i & 1;
            boolean loose = i < 2;
            HarbourMud x = Harbours.full();
            x.restore();
            x.cell(9, 9);
            Checks.due("0 more", x.put(0, stuff, loose, 0), 0);
            Checks.due("1 less of none", x.put(0, stuff, loose, -1), 0);
            Checks.due("9999 less of none", x.put(0, stuff, loose, -9999), 0);
            Checks.due("9999 more", x.put(0, stuff, loose, 9999), 9999);
            Checks.due("1 more", x.put(0, stuff, loose, 1), 10000);
            Checks.due("9999 less", x.put(0, stuff, loose, -9999), 1);
            Checks.due("1 less", x.put(0, stuff, loose, -1), 0);
            Checks.due("5 more", x.put(0, stuff, loose, 5), 5);
            Checks.due("4 less", x.put(0, stuff, loose, -4), 1);
            Checks.due("2 less of 1", x.put(0, stuff, loose, -2), 0);
            Checks.due("8 more", x.put(0, stuff, loose, 8), 8);
            for (int j = 0; j < 4; j++) {
                Checks.due("there alone", x.tons(0, j & 1, j < 2), i == j ? 8 : 0);
            }
        }
        Sentences.quote(10, "-1; -4; -6");
        Harbours.refused(Harbours::some, "put(3, 0, true, -10000)", y -> y.put(3, SAND, LOOSE, -10000), -1);
        Harbours.refused(Harbours::some, "put(0, 2, true, 10000)", y -> y.put(0, 2, LOOSE, 10000), -1);
        Harbours.refused(Harbours::full, "put(8, 0, true, 1)", y -> y.put(8, SAND, LOOSE, 1), -1);
        Harbours.refused(Harbours::some, "put(0, 0, true, -10000)", y -> y.put(0, SAND, LOOSE, -10000), -4);
        Harbours.refused(Harbours::some, "put(0, 0, true, min)", y -> y.put(0, SAND, LOOSE, Integer.MIN_VALUE), -4);
    }

    /** 999999 tons of SAND lie there LOOSE, and as much MUD SETTLED. */
    private static HarbourMud heaped() {
        HarbourMud x = Harbours.still(99, 0);
        for (int i = 0; i < 100; i++) {
            x.put(0, SAND, LOOSE, 9999);
            x.put(0, MUD, SETTLED, 9999);
        }
        x.put(0, SAND, LOOSE, 99);
        x.put(0, MUD, SETTLED, 99);
        return x;
    }

    private static void putsToTheMost() {
        Sentences.quote(10, "(9999; above 1000000 then).");
        Harbours.refused(Harbours::some, "put(0, 0, true, 10000)", y -> y.put(0, SAND, LOOSE, 10000), -6);
        Harbours.refused(Harbours::some, "put(0, 0, true, max)", y -> y.put(0, SAND, LOOSE, Integer.MAX_VALUE), -6);
        Harbours.refused(EdgesOfBuilding::heaped, "put(0, 0, true, 2)", y -> y.put(0, SAND, LOOSE, 2), -6);
        Harbours.refused(EdgesOfBuilding::heaped, "put(0, 1, false, 2)", y -> y.put(0, MUD, SETTLED, 2), -6);
        Harbours.refused(EdgesOfBuilding::heaped, "put(0, 1, false, 9999)", y -> y.put(0, MUD, SETTLED, 9999), -6);
        HarbourMud x = heaped();
        Checks.due("1 more of 999999", x.put(0, SAND, LOOSE, 1), 1000000);
        Checks.due("1 more of 999999", x.put(0, MUD, SETTLED, 1), 1000000);
        Checks.due("0 more of 1000000", x.put(0, SAND, LOOSE, 0), 1000000);
        Checks.due("1 more of 1000000", x.put(0, SAND, LOOSE, 1), -6);
        Checks.due("each by itself", x.put(0, SAND, SETTLED, 9999), 9999);
        Checks.due("1 less of 1000000", x.put(0, SAND, LOOSE, -1), 999999);
        // a TIDE may bring more; then less may still be above
        x.river(0, SAND, 11);
        x.go(1);
        Checks.due("LOOSE", x.tons(0, SAND, LOOSE), 1000010);
        Checks.due("9 less is above 1000000 then", x.put(0, SAND, LOOSE, -9), -6);
        Checks.due("0 more is above 1000000 then", x.put(0, SAND, LOOSE, 0), -6);
        Checks.due("LOOSE", x.tons(0, SAND, LOOSE), 1000010);
        Checks.due("10 less is not", x.put(0, SAND, LOOSE, -10), 1000000);
    }

    private static void tons() {
        Sentences.quote(11, "LOOSE or SETTLED tons.");
        HarbourMud x = Harbours.full();
        Checks.due("restore()", x.restore(), 0);
        x.cell(9, 9);
        Checks.due("none at first", x.tons(0, SAND, LOOSE) + x.tons(0, MUD, SETTLED), 0);
        x.put(0, SAND, LOOSE, 1);
        x.put(0, MUD, SETTLED, 9999);
        Checks.due("LOOSE SAND", x.tons(0, SAND, LOOSE), 1);
        Checks.due("SETTLED SAND", x.tons(0, SAND, SETTLED), 0);
        Checks.due("LOOSE MUD", x.tons(0, MUD, LOOSE), 0);
        Checks.due("SETTLED MUD", x.tons(0, MUD, SETTLED), 9999);
        Harbours.changesNothing(Harbours::some, "tons(2, 1, true)", y -> y.tons(2, MUD, LOOSE));
        Harbours.changesNothing(Harbours::full, "tons(7, 0, false)", y -> y.tons(7, SAND, SETTLED));
        Sentences.quote(11, "-1.");
        for (boolean loose : new boolean[] {false, true}) {
            for (int cell : new int[] {Integer.MIN_VALUE, -1, 3, 8, 16, Integer.MAX_VALUE}) {
                Harbours.refused(Harbours::some, "tons(" + cell + ", 0)", y -> y.tons(cell, SAND, loose), -1);
            }
            Harbours.refused(Harbours::full, "tons(8, 0)", y -> y.tons(8, SAND, loose), -1);
            Harbours.refused(Harbours::full, "tons(7, 2)", y -> y.tons(7, 2, loose), -1);
            Harbours.refused(Harbours::full, "tons(7, -1)", y -> y.tons(7, -1, loose), -1);
            Harbours.refused(Harbours::none, "tons(0, 0)", y -> y.tons(0, SAND, loose), -1);
        }
    }

    private static void depths() {
        Sentences.quote(12, "DEPTH.");
        Checks.due("of the last CELL", Harbours.still(1, 0, 2, 0, 3, 0, 4, 0, 5, 0, 6, 0, 7, 0, 99, 0).depth(7), 99);
        HarbourMud x = Harbours.still(1, 0);
        Checks.due("1", x.depth(0), 1);
        x.put(0, MUD, SETTLED, 100);
        Checks.due("0", x.depth(0), 0);
        Harbours.changesNothing(Harbours::some, "depth(2)", y -> y.depth(2));
        Sentences.quote(12, "-1.");
        for (int cell : new int[] {Integer.MIN_VALUE, -1, 3, 8, Integer.MAX_VALUE}) {
            Harbours.refused(Harbours::some, "depth(" + cell + ")", y -> y.depth(cell), -1);
        }
        Harbours.refused(Harbours::full, "depth(8)", y -> y.depth(8), -1);
        Harbours.refused(Harbours::none, "depth(0)", y -> y.depth(0), -1);
    }

    private static void lacks() {
        Sentences.quote(13, "LACKS (it may be below 0).");
        Checks.due("the least", Harbours.still(99, 0).lacks(0), -99);
        Checks.due("-1", Harbours.still(99, 98).lacks(0), -1);
        Checks.due("0", Harbours.still(99, 99).lacks(0), 0);
        Checks.due("98", Harbours.still(1, 99).lacks(0), 98);
        HarbourMud x = Harbours.still(1, 99);
        x.put(0, SAND, SETTLED, 100);
        Checks.due("the most", x.lacks(0), 99);
        x.put(0, SAND, SETTLED, 9999);
        Checks.due("no more than that", x.lacks(0), 99);
        Checks.due("no REFUSAL below 0", x.count(11), 0);
        Harbours.changesNothing(Harbours::some, "lacks(2)", y -> y.lacks(2));
        Sentences.quote(13, "-1000000001.");
        for (int cell : new int[] {Integer.MIN_VALUE, -1, 3, 8, Integer.MAX_VALUE}) {
            Harbours.refused(Harbours::some, "lacks(" + cell + ")", y -> y.lacks(cell), Checks.FAR, -1);
        }
        Harbours.refused(Harbours::full, "lacks(8)", y -> y.lacks(8), Checks.FAR, -1);
        Harbours.refused(Harbours::none, "lacks(0)", y -> y.lacks(0), Checks.FAR, -1);
    }
}
