import java.util.function.ToLongBiFunction;

/** The Terms, parts II and III: what is worked out in mind; promises 17 to 25. */
final class EdgesOfRuns {
    private static final int SAND = 0;
    private static final int MUD = 1;
    private static final boolean LOOSE = true;
    private static final boolean SETTLED = false;

    private static final int CAP = 0;
    private static final int DROP = 1;
    private static final int PLAN = 2;
    private static final int TOLD_CELL = 3;
    private static final int FEE = 4;
    private static final int SETTLES = 0;
    private static final int PRICE = 2;

    private EdgesOfRuns() {
    }

    static void look() {
        prices();
        fees();
        runs();
        greatestCost();
        holds();
        backs();
        backsFewer();
        bestDrops();
        bestPlans();
        leastCaps();
        walls();
        alone();
        shares();
        lengthsOfRuns();
        refusedBacks();
        refusedShares();
    }

    private static void prices() {
        Sentences.quoteTerms("COST of a TIDE (behind all): for each foot that a CELL LACKS above 0 its PRICE (0 .. 99; 1 at first);");
        HarbourMud x = Harbours.still(30, 31, 30, 30, 30, 0, 30, 33);
        Checks.due("1 foot and 3, none of 0 and below", x.cost(1), 4);
        Checks.due("1 at first", x.set(0, PRICE, 99), 1);
        x.set(1, PRICE, 99);
        x.set(2, PRICE, 99);
        Checks.due("99 for a foot", x.cost(1), 99 + 3);
        Checks.due("99 was taken", x.set(0, PRICE, 0), 99);
        Checks.due("0 for a foot", x.cost(1), 3);
        Checks.due("0 was taken", x.set(0, PRICE, 1), 0);
        x.set(3, PRICE, 50);
        Checks.due("each CELL by its own", x.cost(1), 1 + 150);
        Harbours.refused(Harbours::some, "PRICE -1", y -> y.set(0, PRICE, -1), -4);
        Harbours.refused(Harbours::some, "PRICE 100", y -> y.set(0, PRICE, 100), -6);
        // behind all: what settles on the TIDE LACKS, what is taken on it does not
        HarbourMud y = Harbours.still(30, 30, 30, 30);
        y.set(0, SETTLES, 100);
        y.put(0, SAND, LOOSE, 100);
        Checks.due("1 foot settles on it", y.cost(1), 1);
        y.put(1, SAND, SETTLED, 200);
        y.set(1, PRICE, 99);
        y.dredger(CAP, 101);
        Checks.due("2 feet are taken on it, 101 tons", y.cost(1), 1 + 303);
    }

    private static void fees() {
        Sentences.quoteTerms("for each ton taken FEE (0 .. 99; 1 at first), and 2 more for each ton that goes out to sea by the dredger.");
        HarbourMud x = Harbours.still(30, 0, 30, 0);
        x.dredger(PLAN, 2);
        x.put(0, MUD, SETTLED, 100);
        Checks.due("nothing is taken by CAP 0", x.cost(1), 0);
        x.dredger(CAP, 1);
        Checks.due("1 ton", x.cost(1), 3);
        x.dredger(CAP, 99);
        Checks.due("99 tons, then 1", x.cost(2), 300);
        x.dredger(CAP, 999);
        Checks.due("100 tons, then none", x.cost(2), 300);
        Checks.due("1 at first", x.dredger(FEE, 0), 1);
        Checks.due("out to sea by no FEE", x.cost(1), 200);
        x.dredger(FEE, 99);
        Checks.due("out to sea by 99", x.cost(1), 10100);
        x.dredger(DROP, 1);
        Checks.due("to a CELL by 99", x.cost(1), 9900);
        x.dredger(FEE, 0);
        Checks.due("to a CELL by no FEE", x.cost(1), 0);
        x.way(1, 8, 10, 100);
        Checks.due("out to sea by a WAY then", x.cost(2), 0);
        x.dredger(DROP, 0);
        x.dredger(FEE, 99);
        Checks.due("nothing is taken from the DROP", x.cost(2), 0);
        Harbours.refused(Harbours::some, "FEE -1", y -> y.dredger(FEE, -1), -4);
        Harbours.refused(Harbours::some, "FEE 100", y -> y.dredger(FEE, 100), -6);
    }

    private static void runs() {
        Sentences.quoteTerms("RUNS of n TIDES (1 .. 200) are in mind, from now on.");
        HarbourMud x = Harbours.still(30, 31, 30, 0);
        x.moon(3, 4);
        x.dredger(PLAN, 4);
        x.dredger(TOLD_CELL, 1);
        x.dredger(CAP, 1);
        x.put(1, SAND, SETTLED, 9);
        // s, s, n: from 1 at SPRINGS, from 0 (nothing) at NEAPS
        Checks.due("s", x.cost(1), 1 + 3);
        Checks.due("s s n", x.cost(3), 3 + 6);
        x.go(2);
        Checks.due("n", x.cost(1), 1);
        Checks.due("n s s n", x.cost(4), 4 + 6);
        Checks.due("nothing went by in mind", x.count(3), 2);
        for (int n : new int[] {1, 200}) {
            Harbours.changesNothing(Harbours::some, "cost(" + n + ")", y -> y.cost(n));
            Harbours.changesNothing(Harbours::full, "cost(" + n + ")", y -> y.cost(n));
        }
        Sentences.quoteTerms("COST of a RUN: of all its TIDES together.");
        HarbourMud y = Harbours.still(30, 32);
        Checks.due("cost(1)", y.cost(1), 2);
        Checks.due("cost(2)", y.cost(2), 4);
        Checks.due("cost(199)", y.cost(199), 398);
        Checks.due("cost(200)", y.cost(200), 400);
        Checks.due("nothing LACKS", Harbours.still(30, 30).cost(200), 0);
    }

    private static void greatestCost() {
        Sentences.quote(17, "COST of a RUN.");
        HarbourMud x = Harbours.still(1, 99, 1, 99, 1, 99, 1, 99, 1, 99, 1, 99, 1, 99, 1, 99);
        for (int cell = 0; cell < 8; cell++) {
            x.set(cell, PRICE, 99);
            x.put(cell, MUD, SETTLED, 9999);
        }
        for (int i = 1; i < 20; i++) {
            x.put(0, MUD, SETTLED, 9999);
        }
        x.dredger(CAP, 999);
        x.dredger(PLAN, 2);
        x.dredger(FEE, 99);
        Checks.due("8 times 99 feet of 99, 999 tons of 101", x.cost(200), 200L * (8 * 99 * 99 + 999 * 101));
        Checks.due("on one TIDE", x.cost(1), 8 * 99 * 99 + 999 * 101);
        Checks.due("the least: nothing", Harbours.one().cost(1), 0);
    }

    /** One CELL that SETTLES all at once; a RIVER brings so much. */
    private static HarbourMud silting(int base, int wanted, int tons) {
        HarbourMud x = Harbours.still(base, wanted);
        x.set(0, SETTLES, 100);
        x.river(0, MUD, tons);
        return x;
    }

    private static void holds() {
        Sentences.quoteTerms("HOLDS: the first TIDE of a RUN (0 ..) behind which some CELL LACKS above 0; -9 none.");
        HarbourMud x = silting(30, 28, 100);
        Checks.due("LACKS 0 behind TIDE 1", x.holds(2), -9);
        Checks.due("LACKS 1 behind TIDE 2", x.holds(3), 2);
        Checks.due("the first is told", x.holds(200), 2);
        HarbourMud y = silting(30, 29, 1);
        Checks.due("200 lie there behind the last of 200", y.holds(200), 199);
        Checks.due("not behind 199", y.holds(199), -9);
        Checks.due("at once", Harbours.still(30, 31).holds(1), 0);
        Checks.due("LACKS 0 for ever", Harbours.still(30, 30).holds(200), -9);
        Checks.due("the last CELL", Harbours.still(9, 9, 9, 9, 9, 9, 9, 9, 9, 9, 9, 9, 9, 9, 9, 10).holds(1), 0);
        HarbourMud z = Harbours.still(30, 30);
        z.put(0, SAND, SETTLED, 100);
        z.dredger(CAP, 1);
        Checks.due("it LACKS now, not behind the TIDE", z.holds(9), -9);

        Sentences.quote(18, "HOLDS; -9.");
        Checks.due("from now on, 0 again behind two TIDES", x.go(2), 2);
        Checks.due("holds(1)", x.holds(1), 0);
        Checks.due("-9 is no REFUSAL", y.count(11) + y.count(13) + y.count(14) + y.count(16), 0);
        Harbours.changesNothing(Harbours::some, "holds(200)", h -> h.holds(200));
        Harbours.changesNothing(Harbours::full, "holds(200)", h -> h.holds(200));
    }

    private static void backs() {
        Sentences.quoteTerms("==== III. BACK: tons of a STUFF are put LOOSE to a CELL now (in mind, no dredger):");
        HarbourMud x = Harbours.still(30, 0, 30, 0);
        x.way(0, 8, 10, 25);
        x.set(0, SETTLES, 100);
        x.dredger(CAP, 999);
        x.dredger(PLAN, 2);
        Checks.due("LOOSE: a quarter goes out on the first TIDE; the dredger takes nothing", x.back(0, MUD, 100, 1, 1), 75);
        Checks.due("the other STUFF", x.back(0, SAND, 100, 1, 1), 100);
        x.put(0, MUD, SETTLED, 500);
        Checks.due("nor without", x.back(0, MUD, 100, 1, 3), 75);
        Harbours.changesNothing(Harbours::some, "back", y -> y.back(2, SAND, 9999, 7, 200));
        Harbours.changesNothing(Harbours::full, "back", y -> y.back(7, MUD, 9999, 255, 200));

        Sentences.quoteTerms("how many tons more of it are in CELLS of a set (bits), LOOSE and SETTLED together,");
        HarbourMud y = Harbours.still(9, 0, 9, 0, 9, 0, 9, 0, 9, 0, 9, 0, 9, 0, 9, 0);
        for (int cell = 0; cell < 8; cell++) {
            y.put(cell, SAND, LOOSE, 11);
            y.put(cell, MUD, SETTLED, 22);
        }
        y.set(7, SETTLES, 50);
        for (int cell = 0; cell < 8; cell++) {
            Checks.due("in CELL " + cell + " alone", y.back(cell, SAND, 7, 1 << cell, 1), 7);
            Checks.due("in all but CELL " + cell, y.back(cell, SAND, 7, 255 ^ 1 << cell, 1), 0);
            Checks.due("in all", y.back(cell, SAND, 7, 255, 1), 7);
        }
        Checks.due("in none", y.back(0, SAND, 7, 0, 1), 0);
        y.way(7, 6, 10, 50);
        Checks.due("50 LOOSE in 6, 25 LOOSE and 25 SETTLED in 7", y.back(7, MUD, 100, 0xc0, 1), 100);
        Checks.due("50 LOOSE in 6", y.back(7, MUD, 100, 0x40, 1), 50);
    }

    private static void backsFewer() {
        Sentences.quoteTerms("behind n TIDES than without (they may be fewer).");
        HarbourMud x = Harbours.still(30, 0);
        x.way(0, 8, 0, 50);
        x.way(0, 8, 0, 50);
        x.put(0, SAND, LOOSE, 1);
        // 1 stays by itself, both of 2 go out
        Checks.due("one fewer", x.back(0, SAND, 1, 1, 1), -1);
        Checks.due("as many", x.back(0, SAND, 2, 1, 1), 0);
        HarbourMud y = Harbours.still(30, 0, 30, 0);
        y.way(0, 1, 0, 50);
        Checks.due("behind 1", y.back(0, SAND, 8, 2, 1), 4);
        Checks.due("behind 2", y.back(0, SAND, 8, 2, 2), 6);
        Checks.due("behind 3", y.back(0, SAND, 8, 2, 3), 7);
        Checks.due("behind 200", y.back(0, SAND, 8, 2, 200), 7);
        y.put(0, SAND, LOOSE, 800);
        y.put(1, SAND, LOOSE, 900);
        y.river(1, SAND, 999);
        Checks.due("what is there and comes is there without, too", y.back(0, SAND, 8, 2, 1), 4);

        Sentences.quote(20, "BACK of tons (1 .. 9999) of a STUFF put to a CELL, in a set of CELLS.");
        HarbourMud z = Harbours.full();
        Checks.due("1", Harbours.one().back(0, SAND, 1, 1, 1), 1);
        Checks.due("9999", Harbours.one().back(0, MUD, 9999, 1, 200), 9999);
        Checks.yes("the last CELL, all of the set", z.back(7, MUD, 9999, 255, 1) > 0);
        Harbours.refused(Harbours::some, "0", h -> h.back(0, SAND, 0, 1, 1), Checks.FAR, -4);
        Harbours.refused(Harbours::some, "10000", h -> h.back(0, SAND, 10000, 1, 1), Checks.FAR, -6);
    }

    private static void bestDrops() {
        Sentences.quoteTerms("BEST DROP: of CELLS and the sea the one with which a RUN COSTS least,");
        HarbourMud x = Harbours.still(30, 30);
        x.put(0, MUD, SETTLED, 100);
        x.set(0, PRICE, 99);
        x.dredger(CAP, 1);
        x.dredger(FEE, 0);
        Checks.due("the sea: one ton must go", x.bestDrop(5), 8);
        x.set(0, PRICE, 1);
        Checks.due("the only CELL: 1 is less than 2", x.bestDrop(1), 0);
        Checks.due("the only CELL: 2 is as much as 2", x.bestDrop(2), 0);
        Checks.due("the sea: 2 is less than 3", x.bestDrop(3), 8);
        Checks.due("the DROP is as it was", x.dredger(DROP, 0), 8);

        HarbourMud y = Harbours.still(30, 30, 30, 30, 30, 30, 30, 30, 30, 30, 30, 30, 30, 30, 30, 0);
        y.put(0, MUD, SETTLED, 100);
        y.set(0, PRICE, 9);
        for (int cell = 1; cell < 8; cell++) {
            y.put(cell, SAND, SETTLED, 99);
            y.set(cell, SETTLES, 100);
        }
        y.dredger(CAP, 1);
        y.dredger(FEE, 0);
        Checks.due("the last CELL: elsewhere it LACKS behind the second TIDE", y.bestDrop(2), 7);
        y.dredger(DROP, 3);
        Checks.due("whatever the DROP is now", y.bestDrop(2), 7);
        Checks.due("the DROP is as it was", y.dredger(DROP, 3), 3);

        Sentences.quoteTerms("of several the least number.");
        Checks.due("on one TIDE 1 to 7 do as well", y.bestDrop(1), 1);
        Checks.due("nothing COSTS: CELLS and the sea alike", Harbours.still(30, 0, 30, 0).bestDrop(200), 0);
        Sentences.quote(21, "BEST DROP.");
        Harbours.changesNothing(Harbours::some, "bestDrop(200)", h -> h.bestDrop(200));
        Harbours.changesNothing(Harbours::full, "bestDrop(200)", h -> h.bestDrop(200));
    }

    private static void bestPlans() {
        Sentences.quoteTerms("BEST PLAN: the KIND (TRAP, TOLD by the told CELL as it is) with which it COSTS least,");
        HarbourMud x = Harbours.still(30, 30, 30, 0);
        x.put(0, MUD, SETTLED, 100);
        x.dredger(CAP, 1);
        x.set(0, PRICE, 99);
        // SPRINGS: 3 for the ton, or 99; the told CELL is 1, where nothing is
        x.dredger(TOLD_CELL, 1);
        Checks.due("NEAR, as DEEP does", x.bestPlan(1), 0);
        x.dredger(FEE, 99);
        Checks.due("EBB, as TRAP and TOLD do: 99 is less than 101", x.bestPlan(1), 1);
        x.dredger(TOLD_CELL, 0);
        Checks.due("EBB by itself", x.bestPlan(1), 1);
        x.moon(1, 1);
        x.dredger(TOLD_CELL, 1);
        Checks.due("TRAP at NEAPS", x.bestPlan(1), 2);
        Checks.due("the PLAN is as it was", x.dredger(PLAN, 3), 0);
        Checks.due("whatever it is now", x.bestPlan(1), 2);

        HarbourMud deep = Harbours.still(30, 32, 30, 30);
        deep.put(1, MUD, SETTLED, 100);
        deep.set(1, PRICE, 99);
        deep.dredger(CAP, 1);
        Checks.due("DEEP: the others take where nothing is", deep.bestPlan(1), 3);
        deep.dredger(TOLD_CELL, 1);
        Checks.due("TRAP by the told CELL as it is", deep.bestPlan(1), 2);

        toldBest();

        Sentences.quoteTerms("of several the least. LEAST CAP:");
        Checks.due("nothing COSTS", Harbours.still(30, 30).bestPlan(200), 0);
        Sentences.quote(22, "BEST PLAN.");
        Harbours.changesNothing(Harbours::some, "bestPlan(200)", h -> h.bestPlan(200));
        Harbours.changesNothing(Harbours::full, "bestPlan(200)", h -> h.bestPlan(200));
    }

    private static void toldBest() {
        HarbourMud x = Harbours.still(30, 30, 30, 30, 30, 0);
        x.put(0, MUD, SETTLED, 300);
        x.put(1, MUD, SETTLED, 250);
        x.set(1, PRICE, 99);
        x.dredger(CAP, 250);
        x.dredger(DROP, 2);
        x.dredger(TOLD_CELL, 1);
        x.dredger(FEE, 0);
        x.moon(2, 2);
        // s, n: NEAR, DEEP: from 0, then from 1: 198; EBB: 201, then 198; TRAP: from 1: 3, 3; TOLD: from 1: 3, then from 0: 0
        Checks.due("TOLD", x.bestPlan(2), 4);
        Checks.due("TRAP, as TOLD does, on one TIDE", x.bestPlan(1), 2);
    }

    private static void leastCaps() {
        Sentences.quoteTerms("LEAST CAP: the least of 0, 50, 100, .. 950 with which a RUN HOLDS (-9 none).");
        int[][] rows = {{0, 0}, {99, 0}, {100, 50}, {149, 50}, {150, 100}, {199, 100}, {200, 150}, {999, 900}, {1000, 950},
            {1049, 950}, {1050, -9}, {9999, -9}};
        for (int[] row : rows) {
            HarbourMud x = Harbours.still(30, 30);
            x.put(0, SAND, SETTLED, row[0]);
            Checks.due("leastCap(1) of " + row[0], x.leastCap(1), row[1]);
            Checks.due("CAP is as it was", x.dredger(CAP, 999), 0);
            Checks.due("whatever it is now", x.leastCap(1), row[1]);
        }
        HarbourMud y = Harbours.still(30, 30);
        y.put(0, SAND, SETTLED, 1050);
        y.dredger(CAP, 951);
        Checks.due("951 would hold", y.holds(1), -9);
        Checks.due("but is none of them", y.leastCap(1), -9);
        HarbourMud z = silting(30, 30, 50);
        Checks.due("50 lie there behind TIDE 0", z.leastCap(1), 0);
        Checks.due("100 behind TIDE 1", z.leastCap(2), 50);
        // 50 come each TIDE and 50 are taken from 100 on
        Checks.due("50 for ever", z.leastCap(200), 50);
        Sentences.quote(23, "LEAST CAP; -9.");
        Checks.due("-9 is no REFUSAL", y.count(11) + y.count(13) + y.count(14) + y.count(16), 0);
        Harbours.changesNothing(Harbours::some, "leastCap(200)", h -> h.leastCap(200));
        Harbours.changesNothing(Harbours::full, "leastCap(200)", h -> h.leastCap(200));
    }

    /** 1000 LOOSE tons of SAND in 0; 1 and 2 LACK as soon as some settles there. */
    private static HarbourMud walled() {
        HarbourMud x = Harbours.still(30, 0, 30, 30, 30, 30);
        x.set(1, SETTLES, 100);
        x.set(2, SETTLES, 100);
        x.put(0, SAND, LOOSE, 1000);
        return x;
    }

    private static void walls() {
        Sentences.quoteTerms("WALL: the WAY that is not SHUT, by whose being SHUT a RUN COSTS least,");
        HarbourMud x = walled();
        x.way(0, 1, 0, 20);
        x.way(0, 2, 0, 30);
        Checks.due("2 feet in 1, 3 in 2", x.wall(1), 1);
        x.set(1, PRICE, 2);
        Checks.due("4 for 1, 3 for 2", x.wall(1), 0);
        x.shut(0, true);
        Checks.due("the one that is not SHUT", x.wall(1), 1);
        Checks.due("no WAY is SHUT by it", x.shut(1, false), 0);
        Checks.due("nor open", x.shut(0, true), 0);

        HarbourMud last = walled();
        for (int way = 0; way < 23; way++) {
            last.way(0, 1, 100, 1);
        }
        last.way(0, 1, 0, 10);
        Checks.due("the last of 24", last.wall(1), 23);

        Sentences.quoteTerms("if that is less than now; of several the least; -9 none. ALONE");
        HarbourMud y = walled();
        Checks.due("no WAY", y.wall(1), -9);
        y.way(0, 1, 0, 9);
        Checks.due("90 tons are no foot: not less than now", y.wall(1), -9);
        y.way(0, 2, 0, 10);
        Checks.due("1 foot: less than now", y.wall(1), 1);
        y.way(0, 1, 0, 1);
        // 90 and 10 by 0 and 2 are a foot of 1, 100 by 1 a foot of 2: each SHUT leaves one
        Checks.due("of several the least", y.wall(1), 0);
        y.set(1, PRICE, 0);
        Checks.due("the one that COSTS", y.wall(1), 1);
        y.shut(1, true);
        Checks.due("0 less than 0 is not", y.wall(1), -9);
        y.shut(0, true);
        y.shut(2, true);
        Checks.due("all are SHUT", y.wall(1), -9);
        HarbourMud out = Harbours.still(30, 30);
        out.set(0, SETTLES, 100);
        out.put(0, SAND, LOOSE, 100);
        out.way(0, 8, 0, 50);
        Checks.due("SHUT it would COST more", out.wall(1), -9);
        Sentences.quote(24, "WALL; -9.");
        Checks.due("-9 is no REFUSAL", out.count(11) + out.count(13) + out.count(14) + out.count(16), 0);
        Harbours.changesNothing(Harbours::some, "wall(200)", h -> h.wall(200));
        Harbours.changesNothing(Harbours::full, "wall(200)", h -> h.wall(200));
    }

    private static void alone() {
        Sentences.quoteTerms("ALONE: HOLDS in a RUN without the dredger.");
        HarbourMud x = silting(30, 30, 50);
        x.dredger(CAP, 50);
        x.dredger(PLAN, 2);
        Checks.due("with it", x.holds(200), -9);
        Checks.due("without it 100 lie there behind TIDE 1", x.alone(200), 1);
        Checks.due("not behind TIDE 0", x.alone(1), -9);
        HarbourMud y = Harbours.still(30, 0, 30, 30);
        y.set(1, SETTLES, 100);
        y.put(0, MUD, SETTLED, 100);
        y.dredger(CAP, 100);
        y.dredger(PLAN, 2);
        y.dredger(DROP, 1);
        Checks.due("what it drops LACKS then", y.holds(200), 1);
        Checks.due("without it nothing", y.alone(200), -9);
        Checks.due("at once", Harbours.still(30, 31).alone(1), 0);
        Checks.due("200 lie there behind the last of 200", silting(30, 29, 1).alone(200), 199);
        Checks.due("not behind 199", silting(30, 29, 1).alone(199), -9);
        Sentences.quote(19, "ALONE; -9.");
        Checks.due("-9 is no REFUSAL", y.count(11) + y.count(13) + y.count(14) + y.count(16), 0);
        Harbours.changesNothing(Harbours::some, "alone(200)", h -> h.alone(200));
        Harbours.changesNothing(Harbours::full, "alone(200)", h -> h.alone(200));
    }

    private static void shares() {
        Sentences.quoteTerms("SHARE of RIVERS: how much more lies SETTLED in all CELLS behind n TIDES with a RIVER than without it.");
        HarbourMud x = Harbours.still(30, 0, 30, 0);
        x.river(0, SAND, 10);
        Checks.due("nothing settles", x.share(0, 200), 0);
        x.way(0, 1, 0, 100);
        x.set(1, SETTLES, 100);
        Checks.due("not yet", x.share(0, 1), 0);
        Checks.due("in the other CELL", x.share(0, 2), 10);
        Checks.due("behind 200", x.share(0, 200), 1990);
        x.river(1, SAND, 7);
        x.put(1, MUD, SETTLED, 500);
        Checks.due("of the first still", x.share(0, 2), 10);
        Checks.due("of the second", x.share(1, 2), 14);

        HarbourMud dredged = Harbours.still(30, 0, 30, 0);
        dredged.set(0, SETTLES, 100);
        dredged.river(0, SAND, 10);
        dredged.put(1, MUD, SETTLED, 500);
        dredged.dredger(CAP, 7);
        dredged.dredger(PLAN, 2);
        Checks.due("7 of the 10 are taken", dredged.share(0, 1), 3);
        dredged.dredger(TOLD_CELL, 1);
        Checks.due("with it and without it 7 are taken from 1", dredged.share(0, 2), 20);

        HarbourMud fewer = Harbours.still(30, 28);
        fewer.set(0, SETTLES, 100);
        fewer.put(0, SAND, SETTLED, 250);
        fewer.river(0, SAND, 50);
        fewer.dredger(CAP, 999);
        // with it 300 lie there, 1 foot LACKS and all is taken
        Checks.due("it may be less", fewer.share(0, 1), -250);

        Sentences.quote(25, "SHARE of a RIVER.");
        HarbourMud y = Harbours.still(9, 0, 9, 0, 9, 0, 9, 0, 9, 0, 9, 0, 9, 0, 9, 0);
        for (int river = 0; river < 8; river++) {
            y.set(river, SETTLES, 100);
            y.river(river, river & 1, 1 + river);
        }
        y.river(0, 0, 1);
        for (int river = 0; river < 8; river++) {
            Checks.due("share(" + river + ", 1)", y.share(river, 1), 1 + river);
            Checks.due("share(" + river + ", 200)", y.share(river, 200), 200 * (1 + river));
        }
        Harbours.changesNothing(Harbours::some, "share(1, 200)", h -> h.share(1, 200));
        Harbours.changesNothing(Harbours::full, "share(7, 200)", h -> h.share(7, 200));
    }

    private static void lengthsOfRuns() {
        Sentences.quote(17, "-4000000000000000004; -4000000000000000006; -4000000000000000003.");
        lengths("cost", Checks.FAR_COST, HarbourMud::cost);
        Sentences.quote(18, "-4; -6; -3.");
        lengths("holds", 0, HarbourMud::holds);
        Sentences.quote(19, "-4; -6; -3.");
        lengths("alone", 0, HarbourMud::alone);
        Sentences.quote(21, "-4; -6; -3.");
        lengths("bestDrop", 0, HarbourMud::bestDrop);
        Sentences.quote(22, "-4; -6; -3.");
        lengths("bestPlan", 0, HarbourMud::bestPlan);
        Sentences.quote(23, "-4; -6; -3.");
        lengths("leastCap", 0, HarbourMud::leastCap);
        Sentences.quote(24, "-4; -6; -3.");
        lengths("wall", 0, HarbourMud::wall);
    }

    private static void lengths(String name, long base, ToLongBiFunction<HarbourMud, Integer> call) {
        for (int n : new int[] {Integer.MIN_VALUE, -1, 0}) {
            Harbours.refused(Harbours::some, name + "(" + n + ")", x -> call.applyAsLong(x, n), base, -4);
            Harbours.refused(Harbours::none, name + "(" + n + ") without CELLS", x -> call.applyAsLong(x, n), base, -4);
        }
        for (int n : new int[] {201, Integer.MAX_VALUE}) {
            Harbours.refused(Harbours::some, name + "(" + n + ")", x -> call.applyAsLong(x, n), base, -6);
            Harbours.refused(Harbours::none, name + "(" + n + ") without CELLS", x -> call.applyAsLong(x, n), base, -6);
        }
        for (int n : new int[] {1, 200}) {
            Harbours.refused(Harbours::none, name + "(" + n + ") without CELLS", x -> call.applyAsLong(x, n), base, -3);
            long answer = call.applyAsLong(Harbours.one(), n);
            Checks.yes(name + "(" + n + ") is taken", answer >= 0 || answer == -9);
        }
    }

    private static void refusedBacks() {
        Sentences.quote(20, "-1000000001 (set, too); -1000000004; -1000000006.");
        int[][] nobody = {{3, 0, 1, 7, 1}, {-1, 0, 1, 7, 1}, {8, 0, 1, 7, 1}, {0, 2, 1, 7, 1}, {0, -1, 1, 7, 1},
            {0, 0, 1, 8, 1}, {0, 0, 1, 15, 1}, {0, 0, 1, 256, 1}, {0, 0, 1, -1, 1}, {0, 0, 1, Integer.MIN_VALUE, 1},
            {0, 0, 1, Integer.MAX_VALUE, 1}, {3, 0, 0, 7, 1}, {0, 2, 10000, 7, 1}, {0, 0, 0, 8, 0}, {0, 0, 10000, 8, 201}};
        int[][] below = {{0, 0, 0, 7, 1}, {0, 0, -1, 7, 1}, {0, 0, 1, 7, 0}, {0, 0, 1, 7, -1}, {0, 0, 0, 7, 201},
            {0, 0, 10000, 7, 0}, {0, 0, Integer.MIN_VALUE, 7, 1}, {0, 0, 1, 7, Integer.MIN_VALUE}};
        int[][] room = {{0, 0, 10000, 7, 1}, {0, 0, 1, 7, 201}, {2, 1, 10000, 7, 201}, {0, 0, Integer.MAX_VALUE, 7, 1},
            {0, 0, 1, 7, Integer.MAX_VALUE}};
        int[][][] all = {nobody, below, room};
        int[] numbers = {-1, -4, -6};
        for (int i = 0; i < 3; i++) {
            for (int[] b : all[i]) {
                String call = "back(" + b[0] + ", " + b[1] + ", " + b[2] + ", " + b[3] + ", " + b[4] + ")";
                Harbours.refused(Harbours::some, call, x -> x.back(b[0], b[1], b[2], b[3], b[4]), Checks.FAR, numbers[i]);
            }
        }
        Harbours.refused(Harbours::none, "back without CELLS", x -> x.back(0, 0, 1, 0, 1), Checks.FAR, -1);
        Harbours.refused(Harbours::full, "back with a ninth", x -> x.back(0, 0, 1, 256, 1), Checks.FAR, -1);
        Checks.yes("the whole set is taken", Harbours.some().back(2, 1, 9999, 7, 200) > Checks.FAR);
    }

    private static void refusedShares() {
        Sentences.quote(25, "-1000000001; -1000000004; -1000000006.");
        for (int river : new int[] {Integer.MIN_VALUE, -1, 2, 8, Integer.MAX_VALUE}) {
            for (int n : new int[] {0, 1, 201}) {
                Harbours.refused(Harbours::some, "share(" + river + ", " + n + ")", x -> x.share(river, n), Checks.FAR, -1);
            }
        }
        Harbours.refused(Harbours::full, "share(8, 1)", x -> x.share(8, 1), Checks.FAR, -1);
        Harbours.refused(Harbours::none, "share(0, 1) without RIVERS", x -> x.share(0, 1), Checks.FAR, -1);
        Harbours.refused(Harbours::one, "share(0, 0) without RIVERS", x -> x.share(0, 0), Checks.FAR, -1);
        for (int n : new int[] {Integer.MIN_VALUE, -1, 0}) {
            Harbours.refused(Harbours::some, "share(1, " + n + ")", x -> x.share(1, n), Checks.FAR, -4);
        }
        for (int n : new int[] {201, Integer.MAX_VALUE}) {
            Harbours.refused(Harbours::some, "share(1, " + n + ")", x -> x.share(1, n), Checks.FAR, -6);
        }
        Checks.yes("the last RIVER is taken", Harbours.full().share(7, 200) > Checks.FAR);
    }
}
