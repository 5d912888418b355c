import java.util.function.IntUnaryOperator;

/** Promises 17 to 25: what is worked out in mind. */
public final class RunsTest {
    public static void main(String[] args) {
        refusedRuns();
        costs();
        costsOfTheDredger();
        holdsAndAlone();
        backs();
        backsRefused();
        bestDrops();
        bestPlans();
        leastCaps();
        walls();
        shares();
        nothingChanges();
        Checks.end("RunsTest");
    }

    private static int stillCell(HarbourMud x, int base, int wanted) {
        int cell = x.cell(base, wanted);
        x.set(cell, 0, 0);
        x.set(cell, 1, 0);
        return cell;
    }

    private static void refusedRun(HarbourMud x, String name, IntUnaryOperator call) {
        Checks.refused(x, name + "(0)", () -> call.applyAsInt(0), -4);
        Checks.refused(x, name + "(min)", () -> call.applyAsInt(Integer.MIN_VALUE), -4);
        Checks.refused(x, name + "(201)", () -> call.applyAsInt(201), -6);
        Checks.refused(x, name + "(max)", () -> call.applyAsInt(Integer.MAX_VALUE), -6);
        if (x.count(0) == 0) {
            Checks.refused(x, name + "(1)", () -> call.applyAsInt(1), -3);
            Checks.refused(x, name + "(200)", () -> call.applyAsInt(200), -3);
        }
    }

    private static void refusedRuns() {
        for (int cells = 0; cells < 2; cells++) {
            HarbourMud x = new HarbourMud();
            if (cells == 1) {
                x.cell(30, 20);
            }
            refusedRun(x, "holds", x::holds);
            refusedRun(x, "alone", x::alone);
            refusedRun(x, "bestDrop", x::bestDrop);
            refusedRun(x, "bestPlan", x::bestPlan);
            refusedRun(x, "leastCap", x::leastCap);
            refusedRun(x, "wall", x::wall);
            Checks.refused(x, "cost(0)", () -> x.cost(0), Checks.FAR_COST, -4);
            Checks.refused(x, "cost(201)", () -> x.cost(201), Checks.FAR_COST, -6);
            if (cells == 0) {
                Checks.refused(x, "cost(1)", () -> x.cost(1), Checks.FAR_COST, -3);
            } else {
                Checks.due("cost(200)", x.cost(200), 0);
                Checks.due("holds(200)", x.holds(200), -9);
                Checks.due("leastCap(200)", x.leastCap(200), 0);
            }
        }
    }

    private static void costs() {
        HarbourMud x = new HarbourMud();
        stillCell(x, 30, 33);
        stillCell(x, 30, 10);
        stillCell(x, 30, 31);
        Checks.due("3 feet and 1, not less 20", x.cost(1), 4);
        Checks.due("twice that", x.cost(2), 8);
        x.set(0, 2, 99);
        x.set(2, 2, 0);
        Checks.due("by their prices", x.cost(10), 2970);
        x.river(2, 0, 100);
        x.set(2, 0, 100);
        x.set(2, 2, 1);
        // behind the TIDE: 2, 3, 4 feet lack in 2
        Checks.due("behind each tide", x.cost(3), 3 * 297 + 2 + 3 + 4);
    }

    private static void costsOfTheDredger() {
        HarbourMud x = new HarbourMud();
        stillCell(x, 30, 30);
        stillCell(x, 30, 0);
        x.put(0, 1, false, 250);
        x.dredger(0, 100);
        // NEAR: 100 and 100 are taken, 1 foot lacks behind the first
        Checks.due("fee 1, 2 more out to sea", x.cost(3), 1 + 3 * 200);
        x.dredger(4, 5);
        Checks.due("fee 5, 2 more out to sea", x.cost(3), 1 + 7 * 200);
        x.dredger(1, 1);
        Checks.due("fee 5, to a cell", x.cost(3), 1 + 5 * 200);
        x.dredger(4, 0);
        Checks.due("no fee", x.cost(3), 1);
        // what goes out to sea by WAYS costs nothing
        x.way(1, 8, 10, 100);
        Checks.due("no fee, a way out", x.cost(3), 1);
    }

    private static void holdsAndAlone() {
        HarbourMud x = new HarbourMud();
        x.cell(30, 29);
        x.set(0, 0, 100);
        x.set(0, 1, 0);
        x.river(0, 1, 60);
        // 60, 120, 180, 240: 2 feet are lost behind the fourth
        Checks.due("alone(3)", x.alone(3), -9);
        Checks.due("alone(4)", x.alone(4), 3);
        Checks.due("alone(200)", x.alone(200), 3);
        Checks.due("holds(200) without cap", x.holds(200), 3);
        x.dredger(0, 60);
        x.dredger(2, 2);
        Checks.due("holds(200)", x.holds(200), -9);
        Checks.due("alone(200) is without the dredger", x.alone(200), 3);
        x.dredger(0, 40);
        // 20 more each: 200 behind the tenth
        Checks.due("holds(200)", x.holds(200), 9);
        Checks.due("holds(9)", x.holds(9), -9);
        x.set(0, 3, 31);
        Checks.due("holds(1) at once", x.holds(1), 0);
        Checks.due("alone(1) at once", x.alone(1), 0);
    }

    private static void backs() {
        HarbourMud x = new HarbourMud();
        stillCell(x, 90, 0);
        stillCell(x, 90, 0);
        x.way(0, 1, 10, 50);
        x.way(1, 8, 10, 50);
        // 100: 50 and 50, then 25 and 25 + 25, 25 gone
        Checks.due("back(.. 3, 1)", x.back(0, 1, 100, 3, 1), 100);
        Checks.due("back(.. 1, 1)", x.back(0, 1, 100, 1, 1), 50);
        Checks.due("back(.. 2, 2)", x.back(0, 1, 100, 2, 2), 50);
        Checks.due("back(.. 3, 2)", x.back(0, 1, 100, 3, 2), 75);
        Checks.due("back(.. 0, 2) in no cell", x.back(0, 1, 100, 0, 2), 0);
        Checks.due("sand stays", x.back(0, 0, 9999, 1, 200), 9999);
        Checks.due("1 does not go: it is cut", x.back(0, 1, 1, 1, 200), 1);
        // 1 lies there: with 1 more 1 goes on and is back in neither
        x.put(0, 1, true, 1);
        Checks.due("one goes, one stays", x.back(0, 1, 1, 1, 1), 0);
        Checks.due("the other is in 1", x.back(0, 1, 1, 2, 1), 1);
        x.set(1, 0, 100);
        Checks.due("settled counts, too", x.back(0, 1, 100, 2, 1), 50);
        // no dredger: it would take all that settles
        x.dredger(0, 999);
        x.dredger(2, 2);
        x.dredger(3, 1);
        Checks.due("without the dredger", x.back(0, 1, 100, 2, 1), 50);
        // of that STUFF alone
        x.put(1, 0, true, 500);
        Checks.due("of it", x.back(0, 1, 100, 2, 1), 50);
        Checks.due("nothing came", x.tons(0, 1, true), 1);
        backsBesideMuch();
    }

    /** What is there already goes its way, too: it is the same TIDES without that are compared. */
    private static void backsBesideMuch() {
        HarbourMud x = new HarbourMud();
        stillCell(x, 90, 90);
        x.way(0, 8, 10, 50);
        x.put(0, 1, true, 1001);
        x.put(0, 1, false, 500);
        x.dredger(0, 100);
        x.dredger(4, 0);
        // 1001: 501; 1102: 551; then 501: 251 and 551: 276
        Checks.due("back(.. 1)", x.back(0, 1, 101, 1, 1), 50);
        Checks.due("back(.. 2)", x.back(0, 1, 101, 1, 2), 25);
        // fewer: 3 stay 2, 4 become 2, so the one more is gone
        x.put(0, 1, true, -998);
        Checks.due("one more is gone", x.back(0, 1, 1, 1, 1), 0);
    }

    private static void backsRefused() {
        HarbourMud x = new HarbourMud();
        Checks.refused(x, "back(0, 0, 1, 0, 1) without cells", () -> x.back(0, 0, 1, 0, 1), Checks.FAR, -1);
        x.cell(30, 20);
        x.cell(30, 20);
        int[][] nobody = {{2, 0, 5, 3, 1}, {-1, 0, 5, 3, 1}, {0, 2, 5, 3, 1}, {0, -1, 5, 3, 1}, {0, 0, 5, 4, 1},
            {0, 0, 5, 7, 1}, {0, 0, 5, -1, 1}, {0, 0, 5, Integer.MIN_VALUE, 1}, {0, 0, 0, 4, 0}, {0, 0, 10000, 4, 201}};
        int[][] below = {{0, 0, 0, 3, 1}, {0, 0, 1, 3, 0}, {0, 0, 10000, 3, 0}, {0, 0, 0, 3, 201}};
        int[][] room = {{0, 0, 10000, 3, 1}, {0, 0, 1, 3, 201}};
        int[][][] all = {nobody, below, room};
        int[] numbers = {-1, -4, -6};
        for (int i = 0; i < 3; i++) {
            for (int[] b : all[i]) {
                String call = "back(" + b[0] + ", " + b[1] + ", " + b[2] + ", " + b[3] + ", " + b[4] + ")";
                Checks.refused(x, call, () -> x.back(b[0], b[1], b[2], b[3], b[4]), Checks.FAR, numbers[i]);
            }
        }
    }

    private static void bestDrops() {
        HarbourMud x = new HarbourMud();
        stillCell(x, 30, 30);
        stillCell(x, 30, 0);
        stillCell(x, 30, 0);
        x.put(0, 1, false, 100);
        x.dredger(0, 100);
        x.dredger(4, 0);
        // drop 0: 1 a TIDE; 1 and 2: 0; the sea: 200
        Checks.due("bestDrop(5)", x.bestDrop(5), 1);
        x.set(1, 0, 100);
        x.set(1, 3, 30);
        // drop 1: it settles there and lacks from the second TIDE on
        Checks.due("bestDrop(5)", x.bestDrop(5), 2);
        Checks.due("bestDrop(1)", x.bestDrop(1), 1);
        x.dredger(4, 99);
        Checks.due("dear to take: where nothing is taken", x.bestDrop(5), 0);
        Checks.due("the drop is as it was", x.dredger(1, 8), 8);
        HarbourMud y = new HarbourMud();
        y.cell(30, 30);
        y.set(0, 0, 100);
        y.set(0, 1, 0);
        y.set(0, 2, 99);
        y.river(0, 1, 10);
        y.dredger(0, 10);
        y.put(0, 1, false, 100);
        // the sea: 10 * 3 a TIDE; the only CELL: 99 a TIDE and nothing taken
        Checks.due("bestDrop(20)", y.bestDrop(20), 8);
    }

    private static void bestPlans() {
        HarbourMud x = new HarbourMud();
        stillCell(x, 30, 30);
        stillCell(x, 30, 0);
        Checks.due("all cost nothing", x.bestPlan(9), 0);
        x.put(0, 1, false, 100);
        x.set(0, 2, 99);
        x.dredger(0, 100);
        x.moon(2, 1);
        x.dredger(3, 1);
        // NEAP first: NEAR, EBB and TOLD take 100 at once; TRAP from 1
        Checks.due("of several the least", x.bestPlan(9), 0);
        x.set(0, 2, 1);
        // NEAR 300, EBB 300, TRAP 9, DEEP 300, TOLD 300
        Checks.due("where nothing is taken", x.bestPlan(9), 2);
        x.moon(1, 0);
        x.dredger(3, 0);
        // springs alone: EBB takes nothing
        Checks.due("springs alone", x.bestPlan(9), 1);
        x.put(0, 1, false, -1);
        x.set(0, 1, 0);
        x.river(0, 1, 1);
        x.set(0, 0, 100);
        x.set(0, 2, 99);
        x.dredger(0, 1);
        x.dredger(1, 1);
        x.dredger(4, 0);
        // 99 lie there and 1 comes: 1 foot LACKS unless 1 is taken; NEAR takes then, and DEEP, TRAP, TOLD
        Checks.due("no fee", x.bestPlan(9), 0);
        Checks.due("the plan is as it was", x.dredger(2, 0), 0);
        bestPlanTold();
    }

    private static void bestPlanTold() {
        HarbourMud x = new HarbourMud();
        stillCell(x, 30, 30);
        stillCell(x, 30, 30);
        stillCell(x, 30, 0);
        x.moon(2, 2);
        x.put(0, 1, false, 100);
        x.put(1, 1, false, 250);
        x.set(0, 2, 99);
        x.set(1, 2, 99);
        x.dredger(0, 200);
        x.dredger(1, 2);
        x.dredger(3, 1);
        x.dredger(4, 0);
        Checks.due("all but EBB do alike on one TIDE", x.bestPlan(1), 0);
        x.put(0, 1, false, 200);
        x.set(0, 2, 1);
        // NEAR, DEEP: from 0, then from 1: 200; EBB: 400; TRAP: from 1, and its rest: 6; TOLD: from 1, then from 0: 4
        Checks.due("first the dear one, then the cheap one", x.bestPlan(2), 4);
        x.dredger(2, 4);
        Checks.due("cost(2)", x.cost(2), 4);
        x.dredger(2, 2);
        Checks.due("cost(2)", x.cost(2), 6);
    }

    private static void leastCaps() {
        HarbourMud x = new HarbourMud();
        x.cell(30, 30);
        x.set(0, 0, 100);
        x.set(0, 1, 0);
        x.river(0, 1, 150);
        x.dredger(2, 2);
        // what is left behind a TIDE is 150 less CAP more: below 100 holds
        Checks.due("leastCap(1)", x.leastCap(1), 100);
        Checks.due("leastCap(2)", x.leastCap(2), 150);
        Checks.due("leastCap(200)", x.leastCap(200), 150);
        x.put(0, 1, false, 899);
        // 1049 lie there: 950 must go at once
        Checks.due("leastCap(1)", x.leastCap(1), 950);
        x.put(0, 1, false, 1);
        Checks.due("leastCap(1)", x.leastCap(1), -9);
        Checks.due("the cap is as it was", x.dredger(0, 77), 0);
        x.set(0, 3, 0);
        Checks.due("leastCap(9)", x.leastCap(9), 0);
    }

    private static void walls() {
        HarbourMud x = new HarbourMud();
        x.cell(30, 0);
        x.cell(30, 30);
        x.cell(30, 30);
        for (int cell = 0; cell < 3; cell++) {
            x.set(cell, 0, 100);
            x.set(cell, 1, 0);
        }
        x.set(0, 0, 0);
        x.put(0, 0, true, 1000);
        Checks.due("no way", x.wall(5), -9);
        x.way(0, 8, 100, 100);
        Checks.due("a way on no tide", x.wall(5), -9);
        x.way(0, 1, 0, 40);
        x.way(0, 2, 0, 40);
        Checks.due("of several the least", x.wall(1), 1);
        x.set(2, 2, 2);
        Checks.due("the dearer", x.wall(1), 2);
        x.shut(2, true);
        Checks.due("one that is not shut", x.wall(1), 1);
        x.shut(1, true);
        Checks.due("none that helps", x.wall(1), -9);
        x.shut(1, false);
        x.set(1, 2, 0);
        Checks.due("not less than now", x.wall(1), -9);
        Checks.due("none is shut by it", x.shut(1, false), 0);
        x.set(1, 2, 5);
        x.moon(1, 1);
        x.set(0, 3, 30);
        x.set(0, 0, 100);
        Checks.due("out to sea must stay open", x.wall(1), -9);
        HarbourMud y = new HarbourMud();
        y.cell(30, 0);
        y.cell(30, 30);
        y.put(0, 0, true, 9000);
        y.way(0, 1, 0, 50);
        Checks.due("the first way", y.wall(1), 0);
    }

    private static void shares() {
        HarbourMud x = new HarbourMud();
        Checks.refused(x, "share(0, 1)", () -> x.share(0, 1), Checks.FAR, -1);
        x.cell(90, 90);
        x.cell(90, 0);
        x.set(0, 1, 0);
        x.set(1, 1, 0);
        x.river(0, 1, 100);
        x.river(1, 0, 7);
        Checks.refused(x, "share(2, 0)", () -> x.share(2, 0), Checks.FAR, -1);
        Checks.refused(x, "share(-1, 201)", () -> x.share(-1, 201), Checks.FAR, -1);
        Checks.refused(x, "share(0, 0)", () -> x.share(0, 0), Checks.FAR, -4);
        Checks.refused(x, "share(0, 201)", () -> x.share(0, 201), Checks.FAR, -6);
        // 50 of 100; 75 of 150
        Checks.due("share(0, 1)", x.share(0, 1), 50);
        Checks.due("share(0, 2)", x.share(0, 2), 125);
        Checks.due("share(1, 1)", x.share(1, 1), 3);
        x.dredger(0, 30);
        x.dredger(2, 2);
        Checks.due("with the dredger", x.share(0, 1), 20);
        x.dredger(3, 1);
        x.put(1, 1, false, 30);
        Checks.due("it takes as much from 1 with and without", x.share(0, 1), 50);
        Checks.due("the river is there still", x.share(0, 1), 50);
        x.dredger(0, 0);
        x.set(1, 0, 100);
        Checks.due("share(1, 200)", x.share(1, 200), 1400);
        HarbourMud y = new HarbourMud();
        y.cell(90, 0);
        y.river(0, 0, 10);
        Checks.due("share(0, 1)", y.share(0, 1), 5);
        Checks.due("share(1, 1)", y.share(1, 1), Checks.FAR - 1);
    }

    private static void nothingChanges() {
        HarbourMud x = new HarbourMud();
        Checks.due("coast", Checks.coastOf(x, "c20,19;c25,20;w01sM30;w10nS50;w08sS9;r0M120;r1S33;msnn;"), 8);
        x.dredger(0, 90);
        x.dredger(2, 3);
        x.go(11);
        String before = Checks.lookOf(x);
        x.cost(200);
        x.holds(200);
        x.alone(200);
        x.back(0, 1, 500, 3, 40);
        x.bestDrop(40);
        x.bestPlan(40);
        x.leastCap(40);
        x.wall(40);
        x.share(1, 40);
        Checks.same("behind all that is in mind", Checks.lookOf(x), before);
        // a RUN in mind is what comes then
        long first = x.cost(1);
        long both = x.cost(2);
        x.go(1);
        Checks.due("cost of the second", x.cost(1), both - first);
    }
}
