/** The Terms, part I: CELLS, STUFFS, DEPTH, THE MOON, WAYS, RIVERS and how a TIDE goes by. */
final class EdgesOfTides {
    private static final int SAND = 0;
    private static final int MUD = 1;
    private static final boolean LOOSE = true;
    private static final boolean SETTLED = false;

    private EdgesOfTides() {
    }

    static void look() {
        cells();
        basesAndWanted();
        settlesAndStirs();
        stuffs();
        depths();
        kinds();
        moonRound();
        ways();
        hundredthsTogether();
        shut();
        rivers();
        stirring();
        carrying();
        carryingAllAtOnce();
        bringing();
        settling();
        dredgingBehindSettling();
        oneMore();
        goneOut();
        greatest();
    }

    private static void cells() {
        Sentences.quoteTerms("CELLS 0 .. 7 as they come");
        HarbourMud x = new HarbourMud();
        for (int cell = 0; cell < 8; cell++) {
            Checks.due("depth(" + cell + ") ahead of it", x.depth(cell), -1);
            Checks.due("cell(" + (10 + cell) + ", 0)", x.cell(10 + cell, 0), cell);
            Checks.due("depth(" + cell + ")", x.depth(cell), 10 + cell);
        }
        Checks.due("the ninth", x.cell(10, 0), -6);
        Checks.due("depth(7)", x.depth(7), 17);
        Checks.due("depth(8)", x.depth(8), -1);
        Checks.due("depth(-1)", x.depth(-1), -1);
    }

    private static void basesAndWanted() {
        Sentences.quoteTerms("each with a BASE (1 .. 99 feet), a WANTED depth (0 .. 99 feet)");
        for (int base : new int[] {1, 2, 98, 99}) {
            for (int wanted : new int[] {0, 1, 98, 99}) {
                HarbourMud x = new HarbourMud();
                Checks.due("cell(" + base + ", " + wanted + ")", x.cell(base, wanted), 0);
                Checks.due("depth(0) of BASE " + base, x.depth(0), base);
                Checks.due("lacks(0) of " + base + ", " + wanted, x.lacks(0), wanted - base);
                Checks.due("WANTED as it was", x.set(0, 3, 50), wanted);
            }
        }
        Harbours.refused(Harbours::one, "cell(0, 0)", x -> x.cell(0, 0), -4);
        Harbours.refused(Harbours::one, "cell(100, 0)", x -> x.cell(100, 0), -6);
        Harbours.refused(Harbours::one, "cell(1, -1)", x -> x.cell(1, -1), -4);
        Harbours.refused(Harbours::one, "cell(1, 100)", x -> x.cell(1, 100), -6);
    }

    private static void settlesAndStirs() {
        String[] words = {"SETTLES (0 .. 100 hundredths; 50 at first) and", "STIRS (0 .. 100 hundredths; 20 at first)"};
        int[] first = {50, 20};
        for (int what = 0; what < 2; what++) {
            int w = what;
            Sentences.quoteTerms(words[what]);
            HarbourMud x = Harbours.full();
            Checks.due("at first, of the last CELL", x.set(7, what, 0), first[what]);
            Checks.due("0 is taken", x.set(7, what, 1), 0);
            Checks.due("1 is taken", x.set(7, what, 99), 1);
            Checks.due("99 is taken", x.set(7, what, 100), 99);
            Checks.due("100 is taken", x.set(7, what, 50), 100);
            Checks.due("another CELL's is as at first", x.set(6, what, 50), first[what]);
            Harbours.refused(Harbours::one, "-1", y -> y.set(0, w, -1), -4);
            Harbours.refused(Harbours::one, "101", y -> y.set(0, w, 101), -6);
        }
        Sentences.quoteTerms("20 at first).");
        HarbourMud x = new HarbourMud();
        x.cell(99, 0);
        x.put(0, SAND, SETTLED, 100);
        x.go(1);
        // 20 of 100 are stirred, 10 of 20 settle
        Checks.due("SETTLED by both as at first", x.tons(0, SAND, SETTLED), 90);
        Checks.due("LOOSE by both as at first", x.tons(0, SAND, LOOSE), 10);
    }

    private static void stuffs() {
        Sentences.quoteTerms("STUFFS are 0 SAND, 1 MUD.");
        for (int stuff : new int[] {Integer.MIN_VALUE, -1, 2, 10, Integer.MAX_VALUE}) {
            Harbours.refused(Harbours::some, "put", x -> x.put(0, stuff, LOOSE, 1), -1);
            Harbours.refused(Harbours::some, "tons", x -> x.tons(0, stuff, LOOSE), -1);
            Harbours.refused(Harbours::some, "river", x -> x.river(0, stuff, 1), -1);
            Harbours.refused(Harbours::some, "back", x -> x.back(0, stuff, 1, 1, 1), Checks.FAR, -1);
        }
        // the dredger takes MUD first: 1 is MUD
        HarbourMud x = Harbours.still(30, 0);
        x.put(0, 0, SETTLED, 10);
        x.put(0, 1, SETTLED, 10);
        x.dredger(0, 10);
        x.dredger(2, 2);
        x.go(1);
        Checks.due("0 is SAND", x.tons(0, 0, SETTLED), 10);
        Checks.due("1 is MUD", x.tons(0, 1, SETTLED), 0);

        Sentences.quoteTerms("Of each STUFF a CELL has LOOSE and SETTLED tons (0 at first).");
        HarbourMud y = Harbours.still(30, 0, 30, 0);
        for (int i = 0; i < 8; i++) {
            Checks.due("0 at first", y.tons(i >> 2, i & 1, (i & 2) == 0), 0);
        }
        for (int i = 0; i < 8; i++) {
            y.put(i >> 2, i & 1, (i & 2) == 0, 100 + i);
        }
        for (int i = 0; i < 8; i++) {
            Checks.due("each its own", y.tons(i >> 2, i & 1, (i & 2) == 0), 100 + i);
        }
    }

    private static void depths() {
        Sentences.quoteTerms("DEPTH of a CELL: BASE less its SETTLED tons (both STUFFS) by 100, cut;");
        int[] tons = {0, 1, 99, 100, 101, 199, 200, 299};
        int[] depths = {3, 3, 3, 2, 2, 2, 1, 1};
        for (int i = 0; i < tons.length; i++) {
            for (int mud = 0; mud <= tons[i]; mud += Math.max(1, tons[i] / 2)) {
                HarbourMud x = Harbours.still(3, 0);
                x.put(0, MUD, SETTLED, mud);
                x.put(0, SAND, SETTLED, tons[i] - mud);
                x.put(0, SAND, LOOSE, 9999);
                Checks.due("depth(0) with " + tons[i] + ", MUD " + mud, x.depth(0), depths[i]);
            }
        }
        Sentences.quoteTerms("0 at least.");
        int[] many = {299, 300, 301, 399, 400, 9999};
        for (int i = 0; i < many.length; i++) {
            HarbourMud x = Harbours.still(3, 5);
            x.put(0, SAND, SETTLED, many[i]);
            Checks.due("depth(0) with " + many[i], x.depth(0), i == 0 ? 1 : 0);
            Checks.due("lacks(0) with " + many[i], x.lacks(0), i == 0 ? 4 : 5);
        }
    }

    private static void kinds() {
        Sentences.quoteTerms("TIDES are of KINDS 0 SPRING, 1 NEAP.");
        for (int kind = 0; kind < 2; kind++) {
            HarbourMud x = Harbours.still(1, 99);
            x.set(0, 1, 100);
            x.put(0, SAND, SETTLED, 10);
            x.moon(1, kind);
            x.go(1);
            Checks.due("stirred on a TIDE of KIND " + kind, x.tons(0, SAND, LOOSE), kind == 0 ? 10 : 0);
        }
        for (int told : new int[] {-200, -100, 200, 210, 300, 900, 1000}) {
            Harbours.refused(Harbours::some, "way of " + told, x -> x.way(0, 1, told, 1), -1);
        }
    }

    private static void moonOf(String what, int n, int kinds, int gone, String want) {
        HarbourMud x = Harbours.still(1, 99);
        x.dredger(2, 1);
        if (gone > 0) {
            x.go(gone);
        }
        if (n > 0) {
            x.moon(n, kinds);
        }
        Checks.same(what, Harbours.kindsOf(x, want.length()), want);
    }

    private static void moonRound() {
        Sentences.quoteTerms("THE MOON: a row of 1 to 28 KINDS, gone round and round:");
        moonOf("1 SPRING", 1, 0, 0, "sss");
        moonOf("1 NEAP", 1, 1, 0, "nnn");
        moonOf("2", 2, 1, 0, "nsnsns");
        moonOf("27, the last a NEAP", 27, 1 << 26, 0, ("s".repeat(26) + "n").repeat(3));
        moonOf("28, the last a NEAP", 28, 1 << 27, 0, ("s".repeat(27) + "n").repeat(3));
        moonOf("28, the first a NEAP", 28, 1, 0, ("n" + "s".repeat(27)).repeat(3));
        moonOf("28, but the last NEAPS", 28, -1 ^ 1 << 27, 0, ("n".repeat(27) + "s").repeat(3));
        Harbours.refused(Harbours::some, "moon(0, 1)", x -> x.moon(0, 1), -4);
        Harbours.refused(Harbours::some, "moon(29, 1)", x -> x.moon(29, 1), -6);

        Sentences.quoteTerms("TIDE t is of the one at t modulo their number");
        moonOf("27 of 28 went by", 28, 1 << 27, 27, "ns");
        moonOf("28 of 28 went by", 28, 1 << 27, 28, "s".repeat(27) + "n");
        moonOf("199 of 200", 5, 16, 199, "nssssn");
        moonOf("a new MOON of 3 behind 5 TIDES begins at its last", 3, 1, 5, "snss");
        HarbourMud x = Harbours.still(1, 99);
        x.dredger(2, 1);
        x.moon(4, 8);
        x.go(6);
        x.moon(3, 2);
        x.go(1);
        Checks.same("behind 7 TIDES the one at 1", Harbours.kindsOf(x, 3), "nss");

        Sentences.quoteTerms("(at first one SPRING)");
        moonOf("a new object's", 0, 0, 0, "ssss");
        Checks.due("count(9)", new HarbourMud().count(9), 1);
        Checks.due("how many there were", new HarbourMud().moon(2, 3), 1);
    }

    /** How many tons go out to sea on one TIDE along WAYS of these hundredths, of so many LOOSE tons. */
    private static int goesOut(int tons, int... hundredths) {
        HarbourMud x = Harbours.still(30, 0);
        for (int h : hundredths) {
            x.way(0, 8, 0, h);
        }
        x.put(0, SAND, LOOSE, tons);
        x.go(1);
        Checks.due("what stays", x.tons(0, SAND, LOOSE), tons - x.count(5));
        return x.count(5);
    }

    private static void ways() {
        Sentences.quoteTerms("WAYS (24 at most):");
        HarbourMud x = Harbours.still(30, 0, 30, 0);
        for (int way = 0; way < 24; way++) {
            Checks.due("a WAY", x.way(0, 1, 0, 1), way);
        }
        Checks.due("the 25th", x.way(1, 0, 0, 1), -6);
        Checks.due("count(1)", x.count(1), 24);
        x.put(0, SAND, LOOSE, 100);
        x.go(1);
        Checks.due("along all of them", x.tons(1, SAND, LOOSE), 24);
        Checks.due("the last is SHUT", x.shut(23, true), 1);
        Checks.due("there is no other", x.shut(24, true), -1);

        Sentences.quoteTerms("from a CELL to another one, or out to sea (8), on TIDES of a KIND, for a STUFF,");
        Harbours.refused(Harbours::some, "to itself", y -> y.way(1, 1, 0, 1), -1);
        Harbours.refused(Harbours::some, "from the sea", y -> y.way(8, 1, 0, 1), -1);
        Harbours.refused(Harbours::some, "to a CELL that is not there", y -> y.way(1, 3, 0, 1), -1);
        Harbours.refused(Harbours::some, "to 7, which is not there", y -> y.way(1, 7, 0, 1), -1);
        Harbours.refused(Harbours::some, "to 9", y -> y.way(1, 9, 0, 1), -1);
        for (int told : new int[] {0, 10, 100, 110}) {
            HarbourMud y = Harbours.still(30, 0, 30, 0);
            y.moon(2, 2);
            y.way(1, 8, told, 100);
            y.put(1, SAND, LOOSE, 10);
            y.put(1, MUD, LOOSE, 20);
            int much = told % 100 == 0 ? 10 : 20;
            y.go(1);
            Checks.due("out at the SPRING by " + told, y.count(5), told < 100 ? much : 0);
            y.go(1);
            Checks.due("out at the NEAP by " + told, y.count(5), much);
            y.go(1);
            Checks.due("the other STUFF stays by " + told, y.count(4), 30 - much);
        }

        Sentences.quoteTerms("so many hundredths (1 .. 100);");
        Checks.due("1 of 100", goesOut(100, 1), 1);
        Checks.due("100 of 100", goesOut(100, 100), 100);
        Checks.due("99 of 100", goesOut(100, 99), 99);
        Harbours.refused(Harbours::some, "0", y -> y.way(1, 2, 0, 0), -4);
        Harbours.refused(Harbours::some, "101", y -> y.way(1, 2, 0, 101), -6);
    }

    private static void hundredthsTogether() {
        Sentences.quoteTerms("of one CELL, KIND and STUFF no more than 100 together.");
        for (int told : new int[] {0, 10, 100, 110}) {
            HarbourMud x = Harbours.still(30, 0, 30, 0);
            Checks.due("99", x.way(0, 1, told, 99), 0);
            Checks.due("101 together", x.way(0, 8, told, 2), -3);
            Checks.due("100 together", x.way(0, 8, told, 1), 1);
            Checks.due("101 together", x.way(0, 8, told, 1), -3);
            Checks.due("199 together", x.way(0, 8, told, 99), -3);
            int number = 2;
            for (int other : new int[] {0, 10, 100, 110}) {
                Checks.due("another CELL", x.way(1, 0, other, 100), number++);
                if (other != told) {
                    Checks.due("another KIND or STUFF", x.way(0, 1, other, 100), number++);
                }
            }
        }
        Harbours.refused(Harbours::some, "60 and 41", x -> x.way(0, 2, 0, 41), -3);
        Harbours.refused(Harbours::some, "100, which are SHUT, and 1", x -> x.way(1, 8, 110, 1), -3);
    }

    private static void shut() {
        Sentences.quoteTerms("A WAY may be SHUT.");
        HarbourMud x = Harbours.still(30, 0, 30, 0);
        x.way(0, 1, 0, 10);
        x.way(0, 8, 0, 20);
        x.put(0, SAND, LOOSE, 100);
        x.shut(0, true);
        x.go(1);
        Checks.due("nothing along the SHUT one", x.tons(1, SAND, LOOSE), 0);
        Checks.due("as much as ever along the other", x.count(5), 20);
        x.shut(0, false);
        x.go(1);
        Checks.due("open again", x.tons(1, SAND, LOOSE), 8);
    }

    private static void rivers() {
        Sentences.quoteTerms("RIVERS (8 at most): a CELL, a STUFF, tons a TIDE (1 .. 999).");
        HarbourMud x = Harbours.still(30, 0, 30, 0);
        int[] tons = {1, 2, 998, 999, 5, 6, 7, 8};
        for (int river = 0; river < 8; river++) {
            Checks.due("a RIVER", x.river(river & 1, river >> 1 & 1, tons[river]), river);
        }
        Checks.due("the ninth", x.river(0, 0, 1), -6);
        x.go(1);
        Checks.due("SAND of 0", x.tons(0, SAND, LOOSE), 1 + 5);
        Checks.due("SAND of 1", x.tons(1, SAND, LOOSE), 2 + 6);
        Checks.due("MUD of 0", x.tons(0, MUD, LOOSE), 998 + 7);
        Checks.due("MUD of 1", x.tons(1, MUD, LOOSE), 999 + 8);
        Harbours.refused(Harbours::some, "0", y -> y.river(0, 0, 0), -4);
        Harbours.refused(Harbours::some, "1000", y -> y.river(0, 0, 1000), -6);
        Harbours.refused(Harbours::some, "at the sea", y -> y.river(8, 0, 1), -1);
    }

    private static void stirring() {
        Sentences.quoteTerms("A TIDE goes by so: at SPRINGS of each CELL and STUFF STIRS hundredths of what is SETTLED, cut,"
            + " become LOOSE;");
        int[][] rows = {{0, 9999, 0}, {1, 99, 0}, {1, 100, 1}, {1, 199, 1}, {1, 200, 2}, {20, 4, 0}, {20, 5, 1}, {20, 9, 1},
            {99, 1, 0}, {99, 100, 99}, {100, 0, 0}, {100, 1, 1}, {100, 9999, 9999}};
        for (int[] row : rows) {
            HarbourMud x = Harbours.still(30, 0, 30, 0);
            x.set(0, 1, row[0]);
            x.set(1, 1, row[0]);
            for (int i = 0; i < 4; i++) {
                x.put(i >> 1, i & 1, SETTLED, row[1]);
            }
            x.moon(2, 1);
            x.go(1);
            Checks.due("nothing at a NEAP", x.tons(0, SAND, LOOSE) + x.tons(1, MUD, LOOSE), 0);
            x.go(1);
            for (int i = 0; i < 4; i++) {
                Checks.due(row[0] + " of " + row[1] + ", LOOSE", x.tons(i >> 1, i & 1, LOOSE), row[2]);
                Checks.due(row[0] + " of " + row[1] + ", SETTLED", x.tons(i >> 1, i & 1, SETTLED), row[1] - row[2]);
            }
        }
        HarbourMud y = Harbours.still(30, 0, 30, 0);
        y.set(0, 1, 10);
        y.set(1, 1, 30);
        y.put(0, SAND, SETTLED, 100);
        y.put(1, SAND, SETTLED, 100);
        y.go(1);
        Checks.due("each CELL by its own", y.tons(0, SAND, LOOSE), 10);
        Checks.due("each CELL by its own", y.tons(1, SAND, LOOSE), 30);
    }

    private static void carrying() {
        Sentences.quoteTerms("then along each WAY of the KIND that is not SHUT its hundredths of what was LOOSE there");
        Checks.due("1 of 99, cut", goesOut(99, 1), 0);
        Checks.due("1 of 199, cut", goesOut(199, 1), 1);
        Checks.due("99 of 1, cut", goesOut(1, 99), 0);
        Checks.due("100 of 1", goesOut(1, 100), 1);
        Checks.due("100 of none", goesOut(0, 100), 0);
        Checks.due("50 of 1, twice: each is cut by itself", goesOut(1, 50, 50), 0);
        Checks.due("50 of 3, twice", goesOut(3, 50, 50), 2);
        Checks.due("33, 33 and 34 of 100", goesOut(100, 33, 33, 34), 100);
        Checks.due("33, 33 and 34 of 99", goesOut(99, 33, 33, 34), 32 + 32 + 33);

        Sentences.quoteTerms("behind the stirring, cut, go");
        HarbourMud x = Harbours.still(30, 0);
        x.set(0, 1, 100);
        x.way(0, 8, 0, 50);
        x.put(0, SAND, SETTLED, 51);
        x.put(0, SAND, LOOSE, 50);
        x.go(1);
        Checks.due("half of 101, cut", x.count(5), 50);
        Checks.due("the rest", x.tons(0, SAND, LOOSE), 51);
    }

    private static void carryingAllAtOnce() {
        Sentences.quoteTerms("(all at once);");
        HarbourMud x = Harbours.still(30, 0, 30, 0, 30, 0);
        x.way(0, 1, 0, 100);
        x.way(1, 2, 0, 100);
        x.way(2, 0, 0, 100);
        x.put(0, SAND, LOOSE, 10);
        x.put(1, SAND, LOOSE, 20);
        x.put(2, SAND, LOOSE, 30);
        x.go(1);
        Checks.due("a ring goes round, 0", x.tons(0, SAND, LOOSE), 30);
        Checks.due("a ring goes round, 1", x.tons(1, SAND, LOOSE), 10);
        Checks.due("a ring goes round, 2", x.tons(2, SAND, LOOSE), 20);
        HarbourMud y = Harbours.still(30, 0, 30, 0);
        y.way(1, 0, 0, 50);
        y.way(0, 8, 0, 50);
        y.put(1, SAND, LOOSE, 100);
        y.go(1);
        Checks.due("what comes does not go on", y.count(5), 0);
        Checks.due("what comes stays", y.tons(0, SAND, LOOSE), 50);
    }

    private static void bringing() {
        Sentences.quoteTerms("then RIVERS bring theirs, LOOSE;");
        HarbourMud x = Harbours.still(30, 0);
        x.way(0, 8, 0, 100);
        x.river(0, SAND, 7);
        x.go(1);
        Checks.due("nothing of it goes on the same TIDE", x.count(5), 0);
        Checks.due("LOOSE", x.tons(0, SAND, LOOSE), 7);
        Checks.due("not SETTLED", x.tons(0, SAND, SETTLED), 0);
        x.go(1);
        Checks.due("it goes on the next", x.count(5), 7);
        Checks.due("as much comes", x.tons(0, SAND, LOOSE), 7);
    }

    private static void settling() {
        Sentences.quoteTerms("then of each CELL and STUFF SETTLES hundredths of what is LOOSE, cut, become SETTLED;");
        int[][] rows = {{0, 9999, 0}, {1, 99, 0}, {1, 100, 1}, {1, 199, 1}, {50, 1, 0}, {50, 2, 1}, {50, 3, 1}, {99, 1, 0},
            {99, 100, 99}, {100, 0, 0}, {100, 1, 1}, {100, 9999, 9999}};
        for (int[] row : rows) {
            for (int kind = 0; kind < 2; kind++) {
                HarbourMud x = Harbours.still(30, 0, 30, 0);
                x.moon(1, kind);
                x.set(0, 0, row[0]);
                x.set(1, 0, row[0]);
                for (int i = 0; i < 4; i++) {
                    x.put(i >> 1, i & 1, LOOSE, row[1]);
                }
                x.go(1);
                for (int i = 0; i < 4; i++) {
                    Checks.due(row[0] + " of " + row[1] + ", SETTLED", x.tons(i >> 1, i & 1, SETTLED), row[2]);
                    Checks.due(row[0] + " of " + row[1] + ", LOOSE", x.tons(i >> 1, i & 1, LOOSE), row[1] - row[2]);
                }
            }
        }
        HarbourMud y = Harbours.still(30, 0, 30, 0);
        y.set(0, 0, 100);
        y.set(1, 0, 50);
        y.way(0, 1, 0, 100);
        y.put(0, SAND, LOOSE, 10);
        y.river(0, SAND, 3);
        y.go(1);
        Checks.due("what a RIVER brought settles", y.tons(0, SAND, SETTLED), 3);
        Checks.due("what a WAY brought settles", y.tons(1, SAND, SETTLED), 5);
    }

    private static void dredgingBehindSettling() {
        Sentences.quoteTerms("then the dredger takes;");
        HarbourMud x = Harbours.still(30, 0, 30, 0);
        x.set(0, 0, 100);
        x.set(1, 0, 100);
        x.river(0, MUD, 10);
        x.dredger(0, 10);
        x.dredger(1, 1);
        x.dredger(2, 2);
        x.go(1);
        Checks.due("what settled on the TIDE is taken on it", x.tons(0, MUD, SETTLED), 0);
        Checks.due("it is LOOSE at the DROP behind the TIDE", x.tons(1, MUD, LOOSE), 10);
        x.go(1);
        Checks.due("it settles there on the next", x.tons(1, MUD, SETTLED), 10);
    }

    private static void oneMore() {
        Sentences.quoteTerms("then TIDES that went by are one more.");
        HarbourMud x = Harbours.one();
        Checks.due("none at first", x.count(3), 0);
        Checks.due("go(1)", x.go(1), 1);
        Checks.due("count(3)", x.count(3), 1);
        Checks.due("go(200)", x.go(200), 201);
        Checks.due("count(3)", x.count(3), 201);
    }

    private static void goneOut() {
        Sentences.quoteTerms("What went out to sea is gone (how much in all is told).");
        HarbourMud x = Harbours.still(30, 30);
        Checks.due("none at first", x.count(5), 0);
        x.put(0, SAND, LOOSE, 100);
        x.put(0, MUD, SETTLED, 300);
        x.way(0, 8, 0, 10);
        x.dredger(0, 7);
        x.go(1);
        Checks.due("by the WAY and by the dredger", x.count(5), 17);
        Checks.due("it is no more in the CELLS", x.count(4), 383);
        x.go(1);
        Checks.due("in all", x.count(5), 17 + 9 + 7);
        x.put(0, MUD, SETTLED, -100);
        Checks.due("what is put away is not gone out to sea", x.count(5), 33);
    }

    /** As much as 512 calls can bring: 8 RIVERS of 999, some 480 times 200 TIDES. */
    private static void greatest() {
        Sentences.quoteTerms("tons a TIDE (1 .. 999).");
        HarbourMud x = Harbours.still(99, 0, 99, 99);
        for (int river = 0; river < 8; river++) {
            x.river(0, MUD, 999);
        }
        for (int i = 0; i < 470; i++) {
            x.go(200);
        }
        int all = 8 * 999 * 200 * 470;
        Checks.due("LOOSE", x.tons(0, MUD, LOOSE), all);
        Checks.due("in all CELLS", x.count(4), all);
        x.set(0, 0, 99);
        Checks.due("share(0, 1)", x.share(0, 1), 989);
        x.go(1);
        all += 8 * 999;
        int settled = (int) (all * 99L / 100);
        Checks.due("99 of 100 settle", x.tons(0, MUD, SETTLED), settled);
        Checks.due("depth(0)", x.depth(0), 0);
        x.set(0, 0, 0);
        x.set(0, 1, 99);
        x.way(0, 1, 10, 50);
        x.way(0, 8, 10, 50);
        int stirred = (int) (settled * 99L / 100);
        int loose = all - settled + stirred;
        x.go(1);
        Checks.due("half goes out", x.count(5), loose / 2);
        Checks.due("half goes to 1", x.tons(1, MUD, LOOSE), loose / 2);
        Checks.due("SETTLED", x.tons(0, MUD, SETTLED), settled - stirred);
        Checks.due("back(1, ..)", x.back(1, MUD, 9999, 3, 200), 9999);
        Checks.due("tons in all", x.count(4) + x.count(5), all + 8 * 999);
    }
}
