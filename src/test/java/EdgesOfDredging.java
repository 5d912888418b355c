/** The Terms, part II: the dredger, its PLANS, what it takes; promises 14 to 16. */
final class EdgesOfDredging {
    private static final int SAND = 0;
    private static final int MUD = 1;
    private static final boolean LOOSE = true;
    private static final boolean SETTLED = false;

    private static final int CAP = 0;
    private static final int DROP = 1;
    private static final int PLAN = 2;
    private static final int TOLD_CELL = 3;
    private static final int FEE = 4;

    private EdgesOfDredging() {
    }

    static void look() {
        caps();
        drops();
        near();
        ebb();
        trap();
        deep();
        told();
        asManyAsAreThere();
        mudFirst();
        atTheDrop();
        fromTheDrop();
        settings();
        takes();
        goes();
    }

    /** CELLS of 30 feet in which nothing moves, of which each LACKS as told. */
    private static HarbourMud lacking(int... lacks) {
        HarbourMud x = new HarbourMud();
        for (int i = 0; i < lacks.length; i++) {
            x.cell(30, 30 + lacks[i]);
            x.set(i, 0, 0);
            x.set(i, 1, 0);
            Checks.due("lacks(" + i + ")", x.lacks(i), lacks[i]);
        }
        return x;
    }

    private static void takesFrom(HarbourMud x, int plan, int want, String why) {
        x.dredger(PLAN, plan);
        Checks.due("takes() by PLAN " + plan + ", " + why, x.takes(), want);
    }

    private static void caps() {
        Sentences.quoteTerms("==== II. THE DREDGER: CAP (0 .. 999 tons a TIDE; 0 at first)");
        HarbourMud x = lacking(5);
        x.put(0, SAND, SETTLED, 9999);
        x.go(1);
        Checks.due("nothing is taken at first", x.count(6), 0);
        Checks.due("0 at first", x.dredger(CAP, 1), 0);
        x.go(1);
        Checks.due("by CAP 1", x.count(6), 1);
        Checks.due("CAP was", x.dredger(CAP, 999), 1);
        x.go(1);
        Checks.due("by CAP 999", x.count(6), 1000);
        x.go(2);
        Checks.due("a TIDE", x.count(6), 2998);
        Checks.due("CAP was", x.dredger(CAP, 0), 999);
        x.go(3);
        Checks.due("nothing by CAP 0", x.count(6), 2998);
        Harbours.refused(Harbours::some, "dredger(0, -1)", y -> y.dredger(CAP, -1), -4);
        Harbours.refused(Harbours::some, "dredger(0, 1000)", y -> y.dredger(CAP, 1000), -6);
    }

    private static void drops() {
        Sentences.quoteTerms("a DROP (a CELL, or 8 out to sea; 8 at first), a PLAN:");
        HarbourMud x = Harbours.still(1, 0, 2, 0, 3, 0, 4, 0, 5, 0, 6, 0, 7, 0, 8, 0);
        Checks.due("8 at first", x.dredger(DROP, 7), 8);
        Checks.due("7, the last CELL", x.dredger(DROP, 0), 7);
        Checks.due("0, the first", x.dredger(DROP, 8), 0);
        Checks.due("8, the sea", x.dredger(DROP, 8), 8);
        Checks.due("PLAN 0 at first", x.dredger(PLAN, 4), 0);
        Checks.due("PLAN 4, the last", x.dredger(PLAN, 0), 4);
        Harbours.refused(Harbours::some, "dredger(1, 3)", y -> y.dredger(DROP, 3), -1);
        Harbours.refused(Harbours::some, "dredger(1, 9)", y -> y.dredger(DROP, 9), -1);
        Harbours.refused(Harbours::some, "dredger(1, -1)", y -> y.dredger(DROP, -1), -1);
        Harbours.refused(Harbours::full, "dredger(1, 9)", y -> y.dredger(DROP, 9), -1);
    }

    private static void near() {
        Sentences.quoteTerms("0 NEAR: it takes from the CELL that LACKS most");
        takesFrom(lacking(1, 2, 3), 0, 2, "the last LACKS most");
        takesFrom(lacking(3, 2, 1), 0, 0, "the first LACKS most");
        takesFrom(lacking(0, 9, 0), 0, 1, "the one between");
        Sentences.quoteTerms("(LACKS: WANTED less DEPTH;");
        HarbourMud x = Harbours.still(40, 30, 9, 8, 99, 99);
        Checks.due("30 less 40", x.lacks(0), -10);
        x.put(0, MUD, SETTLED, 1200);
        Checks.due("30 less 28", x.lacks(0), 2);
        x.put(1, SAND, SETTLED, 400);
        Checks.due("8 less 5", x.lacks(1), 3);
        Checks.due("takes() from the one that LACKS, not that is shallow or full", x.takes(), 1);
        Sentences.quoteTerms("of several the least; none, if no CELL LACKS above 0).");
        takesFrom(lacking(2, 2, 2), 0, 0, "of several the least");
        takesFrom(lacking(1, 2, 2), 0, 1, "of several the least");
        takesFrom(lacking(0, 0, 0), 0, -9, "0 is not above 0");
        takesFrom(lacking(-30, -1, 0), 0, -9, "below 0");
        takesFrom(lacking(-1, 0, 1), 0, 2, "1 is above 0");
        HarbourMud y = lacking(0);
        y.put(0, SAND, SETTLED, 99);
        y.dredger(CAP, 10);
        y.go(1);
        Checks.due("nothing is taken where 0 LACK", y.count(6), 0);
        y.put(0, SAND, SETTLED, 1);
        y.go(1);
        Checks.due("taken where 1 LACKS", y.count(6), 10);
    }

    private static void ebb() {
        Sentences.quoteTerms("1 EBB under NEAR: likewise, but at NEAPS alone.");
        int[][] lacks = {{1, 2, 2}, {0, 0, 0}, {-1, 0, 1}, {2, 2, 1}};
        int[] from = {1, -9, 2, 0};
        for (int i = 0; i < lacks.length; i++) {
            HarbourMud x = lacking(lacks[i]);
            takesFrom(x, 1, -9, "a SPRING comes");
            x.moon(1, 1);
            takesFrom(x, 1, from[i], "a NEAP comes");
        }
        HarbourMud y = lacking(9);
        y.put(0, MUD, SETTLED, 100);
        y.dredger(CAP, 1);
        y.dredger(PLAN, 1);
        y.moon(3, 2);
        int[] taken = {0, 1, 1, 1, 2, 2};
        for (int tide = 0; tide < taken.length; tide++) {
            y.go(1);
            Checks.due("taken behind TIDE " + tide, y.count(6), taken[tide]);
        }
    }

    private static void trap() {
        Sentences.quoteTerms("2 TRAP: from a told CELL, whatever it LACKS.");
        for (int lack : new int[] {-30, -1, 0, 1, 69}) {
            for (int kind = 0; kind < 2; kind++) {
                HarbourMud x = lacking(9, lack);
                x.dredger(TOLD_CELL, 1);
                x.dredger(CAP, 5);
                x.moon(1, kind);
                takesFrom(x, 2, 1, "it LACKS " + lack);
                x.put(1, SAND, SETTLED, 5);
                x.go(1);
                Checks.due("taken from it", x.tons(1, SAND, SETTLED), 0);
            }
        }
        takesFrom(lacking(-9, 9), 2, 0, "the CELL that is told at first");
    }

    private static void deep() {
        Sentences.quoteTerms("3 DEEP under NEAR: from the CELL that has most SETTLED tons");
        HarbourMud x = lacking(5, 0, 0);
        x.put(0, SAND, SETTLED, 50);
        x.put(1, SAND, SETTLED, 30);
        x.put(1, MUD, SETTLED, 21);
        x.put(2, SAND, LOOSE, 9999);
        takesFrom(x, 3, 1, "51 of both STUFFS");
        x.put(0, MUD, SETTLED, 2);
        takesFrom(x, 3, 0, "52");
        for (int kind = 0; kind < 2; kind++) {
            x.moon(1, kind);
            takesFrom(x, 3, 0, "on TIDES of KIND " + kind);
        }
        Sentences.quoteTerms("of those that LACK above less 2 (of several the least; none without any).");
        takesFrom(lacking(-2, -2), 3, -9, "-2 is not above -2");
        takesFrom(lacking(-3, -30), 3, -9, "below -2");
        takesFrom(lacking(-2, -1), 3, 1, "-1 is above -2");
        takesFrom(lacking(-2, 0, -1), 3, 1, "none has any SETTLED: of several the least");
        HarbourMud y = lacking(-30, -1, 3, -1);
        y.put(0, SAND, SETTLED, 2700);
        Checks.due("lacks(0)", y.lacks(0), -3);
        y.put(1, SAND, SETTLED, 70);
        y.put(2, MUD, SETTLED, 70);
        y.put(3, SAND, SETTLED, 70);
        takesFrom(y, 3, 1, "three with 70: of several the least");
        y.put(3, MUD, SETTLED, 1);
        takesFrom(y, 3, 3, "71");
        y.put(0, SAND, SETTLED, 100);
        Checks.due("lacks(0)", y.lacks(0), -2);
        takesFrom(y, 3, 3, "2800 where -2 LACK");
        y.put(0, SAND, SETTLED, 100);
        takesFrom(y, 3, 0, "2900 where -1 LACK");
        y.dredger(CAP, 999);
        y.go(1);
        Checks.due("it is taken there", y.tons(0, SAND, SETTLED), 1901);
    }

    private static void told() {
        Sentences.quoteTerms("4 TOLD under TRAP: from the told CELL at SPRINGS, as NEAR at NEAPS.");
        for (int lack : new int[] {-30, 0, 9}) {
            HarbourMud x = lacking(1, lack, 2, 2);
            x.dredger(TOLD_CELL, 1);
            takesFrom(x, 4, 1, "a SPRING, it LACKS " + lack);
            x.moon(1, 1);
            takesFrom(x, 4, lack == 9 ? 1 : 2, "a NEAP, it LACKS " + lack);
        }
        HarbourMud y = lacking(0, -1);
        y.dredger(TOLD_CELL, 1);
        y.moon(1, 1);
        takesFrom(y, 4, -9, "a NEAP, nothing LACKS");
        y.put(0, SAND, SETTLED, 10);
        y.put(1, SAND, SETTLED, 10);
        y.dredger(CAP, 1);
        y.go(1);
        Checks.due("nothing at the NEAP", y.count(6), 0);
        y.moon(1, 0);
        y.go(1);
        Checks.due("from the told CELL at the SPRING", y.tons(1, SAND, SETTLED), 9);
    }

    private static void asManyAsAreThere() {
        Sentences.quoteTerms("It takes CAP tons, or as many as are SETTLED there:");
        int[][] rows = {{100, 0, 0}, {100, 1, 1}, {100, 99, 99}, {100, 100, 100}, {100, 101, 100}, {999, 998, 998},
            {999, 999, 999}, {999, 1000, 999}, {1, 1, 1}, {0, 5, 0}};
        for (int[] row : rows) {
            for (int stuff = 0; stuff < 2; stuff++) {
                HarbourMud x = lacking(20);
                x.dredger(CAP, row[0]);
                x.put(0, stuff, SETTLED, row[1]);
                x.put(0, stuff, LOOSE, 500);
                x.go(1);
                String call = "CAP " + row[0] + " of " + row[1];
                Checks.due(call + ", taken", x.count(6), row[2]);
                Checks.due(call + ", left", x.tons(0, stuff, SETTLED), row[1] - row[2]);
                Checks.due(call + ", LOOSE", x.tons(0, stuff, LOOSE), 500);
            }
        }
    }

    private static void mudFirst() {
        Sentences.quoteTerms("MUD first, then SAND;");
        int[][] rows = {{0, 50, 0, 0}, {99, 50, 0, 49}, {100, 50, 0, 50}, {101, 50, 1, 50}, {60, 40, 0, 0}, {60, 41, 0, 1},
            {60, 39, 0, 0}};
        for (int[] row : rows) {
            HarbourMud x = lacking(20);
            x.dredger(CAP, 100);
            x.put(0, MUD, SETTLED, row[0]);
            x.put(0, SAND, SETTLED, row[1]);
            x.go(1);
            Checks.due("MUD left of " + row[0], x.tons(0, MUD, SETTLED), row[2]);
            Checks.due("SAND left of " + row[1], x.tons(0, SAND, SETTLED), row[3]);
            Checks.due("taken", x.count(6), row[0] + row[1] - row[2] - row[3]);
        }
    }

    private static void atTheDrop() {
        Sentences.quoteTerms("what it takes is LOOSE at the DROP of the same STUFF, or gone out to sea.");
        for (int drop : new int[] {1, 7, 8}) {
            HarbourMud x = lacking(20, 0, 0, 0, 0, 0, 0, 0);
            x.dredger(CAP, 100);
            x.dredger(DROP, drop);
            x.put(0, MUD, SETTLED, 70);
            x.put(0, SAND, SETTLED, 90);
            x.go(1);
            Checks.due("gone out by DROP " + drop, x.count(5), drop == 8 ? 100 : 0);
            for (int cell = 1; cell < 8; cell++) {
                Checks.due("MUD in " + cell, x.tons(cell, MUD, LOOSE), cell == drop ? 70 : 0);
                Checks.due("SAND in " + cell, x.tons(cell, SAND, LOOSE), cell == drop ? 30 : 0);
                Checks.due("SETTLED in " + cell, x.tons(cell, MUD, SETTLED) + x.tons(cell, SAND, SETTLED), 0);
            }
        }
    }

    private static void fromTheDrop() {
        Sentences.quoteTerms("From the DROP itself it takes nothing (NEAR, EBB, DEEP pass it over;");
        for (int plan : new int[] {0, 1, 3}) {
            HarbourMud x = lacking(3, 9, 2);
            x.moon(1, 1);
            x.put(1, MUD, SETTLED, 90);
            x.put(0, SAND, SETTLED, 50);
            x.dredger(CAP, 10);
            takesFrom(x, plan, 1, "the sea is the DROP");
            x.dredger(DROP, 1);
            takesFrom(x, plan, 0, "the DROP is passed over");
            x.go(1);
            Checks.due("taken from the other", x.tons(0, SAND, SETTLED), 40);
            Checks.due("nothing from the DROP", x.tons(1, MUD, SETTLED), 90);
            HarbourMud y = lacking(9, -5);
            y.moon(1, 1);
            y.dredger(DROP, 0);
            y.dredger(CAP, 10);
            y.put(0, MUD, SETTLED, 90);
            takesFrom(y, plan, -9, "the DROP alone LACKS");
            y.go(1);
            Checks.due("nothing is taken", y.count(6), 0);
        }
        Sentences.quoteTerms("TRAP, TOLD take nothing then).");
        for (int plan : new int[] {2, 4}) {
            HarbourMud x = lacking(3, 9, 2);
            x.put(0, MUD, SETTLED, 90);
            x.put(1, MUD, SETTLED, 90);
            x.dredger(CAP, 10);
            x.dredger(TOLD_CELL, 1);
            x.dredger(DROP, 1);
            takesFrom(x, plan, -9, "the told CELL is the DROP");
            x.go(1);
            Checks.due("nothing is taken", x.count(6), 0);
            Checks.due("nothing is LOOSE at the DROP", x.tons(1, MUD, LOOSE), 0);
            x.moon(1, 1);
            takesFrom(x, plan, plan == 2 ? -9 : 0, "at a NEAP");
        }
    }

    private static void settings() {
        Sentences.quote(14, "CAP (what 0), DROP (1), PLAN (2; 0 .. 4), the told CELL (3; 0 at first), FEE (4): what it was.");
        HarbourMud x = Harbours.still(30, 0, 30, 0, 30, 0);
        int[] first = {0, 8, 0, 0, 1};
        int[][] taken = {{0, 1, 998, 999}, {0, 1, 2, 8}, {0, 1, 2, 3, 4}, {0, 1, 2}, {0, 1, 98, 99}};
        for (int what = 0; what <= 4; what++) {
            int was = first[what];
            for (int v : taken[what]) {
                Checks.due("dredger(" + what + ", " + v + ")", x.dredger(what, v), was);
                was = v;
            }
        }
        for (int what = 0; what <= 4; what++) {
            int last = taken[what][taken[what].length - 1];
            Checks.due("each its own, " + what, x.dredger(what, 0), last);
        }
        HarbourMud full = Harbours.full();
        Checks.due("the last CELL is told", full.dredger(TOLD_CELL, 7), 0);
        Checks.due("the last CELL was told", full.dredger(TOLD_CELL, 0), 7);
        Checks.due("the sea without CELLS", new HarbourMud().dredger(DROP, 8), 8);
        int[][] above = {{CAP, 999}, {PLAN, 4}, {FEE, 99}};
        for (int[] a : above) {
            Harbours.refused(Harbours::some, "above", y -> y.dredger(a[0], a[1] + 1), -6);
            Harbours.refused(Harbours::some, "far above", y -> y.dredger(a[0], Integer.MAX_VALUE), -6);
            Harbours.refused(Harbours::some, "below", y -> y.dredger(a[0], -1), -4);
            Harbours.refused(Harbours::some, "far below", y -> y.dredger(a[0], Integer.MIN_VALUE), -4);
        }
    }

    private static void takes() {
        Sentences.quote(15, "From which CELL it would take on the next TIDE, if all lay as it does now"
            + " (whether or not anything is SETTLED there);");
        HarbourMud x = lacking(1, 5);
        x.set(0, 0, 100);
        x.put(0, MUD, LOOSE, 9999);
        Checks.due("as it lies now, though nothing is SETTLED and CAP is 0", x.takes(), 1);
        x.dredger(PLAN, 3);
        Checks.due("by DEEP with nothing SETTLED", x.takes(), 0);
        x.dredger(PLAN, 4);
        x.dredger(TOLD_CELL, 1);
        x.moon(2, 2);
        Checks.due("the next TIDE is a SPRING", x.takes(), 1);
        x.set(0, 3, 99);
        x.go(1);
        Checks.due("the next TIDE is a NEAP", x.takes(), 0);
        Harbours.changesNothing(Harbours::some, "takes()", HarbourMud::takes);
        Harbours.changesNothing(Harbours::full, "takes()", HarbourMud::takes);
        Sentences.quote(15, "-9 none, or the DROP.");
        Checks.due("none", lacking(0, 0).takes(), -9);
        HarbourMud y = lacking(-9, -9);
        y.dredger(PLAN, 2);
        y.dredger(DROP, 0);
        Checks.due("the DROP", y.takes(), -9);
        Checks.due("it is no REFUSAL", y.count(13) + y.count(11), 0);
        Sentences.quote(15, "-3 no CELLS.");
        Harbours.refused(Harbours::none, "takes()", HarbourMud::takes, -3);
        Checks.due("one CELL", Harbours.one().takes(), -9);
    }

    private static void goes() {
        Sentences.quote(16, "n TIDES (1 .. 200) go by: how many went by in all.");
        HarbourMud x = Harbours.one();
        Checks.due("go(1)", x.go(1), 1);
        Checks.due("go(199)", x.go(199), 200);
        Checks.due("go(200)", x.go(200), 400);
        HarbourMud y = Harbours.still(30, 0);
        y.river(0, MUD, 1);
        y.go(200);
        Checks.due("200 TIDES brought", y.count(4), 200);
        y.go(1);
        Checks.due("one TIDE brought", y.count(4), 201);
        Sentences.quote(16, "-4; -6; -3 no CELLS.");
        Harbours.refused(Harbours::some, "go(0)", z -> z.go(0), -4);
        Harbours.refused(Harbours::some, "go(201)", z -> z.go(201), -6);
        Harbours.refused(Harbours::none, "go(1)", z -> z.go(1), -3);
        Harbours.refused(Harbours::none, "go(0)", z -> z.go(0), -4);
        Harbours.refused(Harbours::none, "go(201)", z -> z.go(201), -6);
    }
}
