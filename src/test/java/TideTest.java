/** Promise 16 and how a TIDE goes by; promises 14 and 15: the dredger's PLANS. */
public final class TideTest {
    public static void main(String[] args) {
        goRefused();
        stirring();
        carryingAtOnce();
        carryingByKindAndStuff();
        riversThenSettling();
        greatHeaps();
        dredgerSettings();
        takingMudFirst();
        droppingInACell();
        near();
        ebb();
        trap();
        deep();
        told();
        Checks.end("TideTest");
    }

    /** A CELL in which nothing moves by itself. */
    private static int stillCell(HarbourMud x, int base, int wanted) {
        int cell = x.cell(base, wanted);
        x.set(cell, 0, 0);
        x.set(cell, 1, 0);
        return cell;
    }

    private static void goRefused() {
        HarbourMud x = new HarbourMud();
        Checks.refused(x, "go(0)", () -> x.go(0), -4);
        Checks.refused(x, "go(201)", () -> x.go(201), -6);
        Checks.refused(x, "go(1)", () -> x.go(1), -3);
        x.cell(30, 20);
        Checks.refused(x, "go(-1)", () -> x.go(-1), -4);
        Checks.refused(x, "go(max)", () -> x.go(Integer.MAX_VALUE), -6);
        Checks.due("go(200)", x.go(200), 200);
        Checks.due("go(1)", x.go(1), 201);
        Checks.due("count(3)", x.count(3), 201);
    }

    private static void stirring() {
        HarbourMud x = new HarbourMud();
        x.cell(90, 0);
        x.set(0, 0, 0);
        x.put(0, 0, false, 199);
        x.put(0, 1, false, 4);
        x.go(1);
        Checks.due("20 of 199, cut, are loose", x.tons(0, 0, true), 39);
        Checks.due("the rest is settled", x.tons(0, 0, false), 160);
        Checks.due("20 of 4, cut", x.tons(0, 1, true), 0);
        x.moon(1, 1);
        x.go(1);
        Checks.due("nothing is stirred at neaps", x.tons(0, 0, false), 160);
        x.moon(1, 0);
        x.set(0, 1, 100);
        x.go(1);
        Checks.due("all is stirred", x.tons(0, 0, true), 199);
        Checks.due("all is stirred", x.tons(0, 1, true), 4);
    }

    private static void carryingAtOnce() {
        HarbourMud x = new HarbourMud();
        stillCell(x, 90, 0);
        stillCell(x, 90, 0);
        stillCell(x, 90, 0);
        x.way(0, 1, 0, 50);
        x.way(1, 0, 0, 50);
        x.way(1, 8, 0, 50);
        x.way(0, 2, 0, 33);
        x.put(0, 0, true, 101);
        x.put(1, 0, true, 11);
        x.go(1);
        Checks.due("101 less 50 less 33, 5 more", x.tons(0, 0, true), 23);
        Checks.due("11 less 5 less 5, 50 more", x.tons(1, 0, true), 51);
        Checks.due("33 of 101", x.tons(2, 0, true), 33);
        Checks.due("gone", x.count(5), 5);
        Checks.due("none was taken by the dredger", x.count(6), 0);
        // what is stirred goes on the same TIDE
        x.set(2, 1, 10);
        x.put(2, 1, false, 100);
        x.way(2, 8, 10, 100);
        x.go(1);
        Checks.due("settled mud", x.tons(2, 1, false), 90);
        Checks.due("loose mud", x.tons(2, 1, true), 0);
    }

    private static void carryingByKindAndStuff() {
        HarbourMud x = new HarbourMud();
        stillCell(x, 90, 0);
        x.moon(2, 2);
        x.way(0, 8, 110, 50);
        x.put(0, 0, true, 100);
        x.put(0, 1, true, 100);
        x.go(1);
        Checks.due("mud at a spring", x.tons(0, 1, true), 100);
        x.go(1);
        Checks.due("mud at a neap", x.tons(0, 1, true), 50);
        Checks.due("sand at a neap", x.tons(0, 0, true), 100);
        x.way(0, 8, 0, 10);
        x.go(1);
        Checks.due("mud at a spring", x.tons(0, 1, true), 50);
        Checks.due("sand at a spring", x.tons(0, 0, true), 90);
        Checks.due("count(5)", x.count(5), 60);
    }

    private static void riversThenSettling() {
        HarbourMud x = new HarbourMud();
        x.cell(90, 0);
        x.way(0, 8, 0, 100);
        x.river(0, 0, 101);
        x.go(1);
        Checks.due("brought behind the ways, and settled by half, cut", x.tons(0, 0, false), 50);
        Checks.due("loose", x.tons(0, 0, true), 51);
        Checks.due("gone", x.count(5), 0);
        x.go(1);
        // 10 of 50 stirred, 61 gone, 101 brought, 50 settled
        Checks.due("gone", x.count(5), 61);
        Checks.due("settled", x.tons(0, 0, false), 90);
        x.set(0, 0, 100);
        x.go(1);
        Checks.due("all settles", x.tons(0, 0, true), 0);
    }

    private static void greatHeaps() {
        HarbourMud x = new HarbourMud();
        stillCell(x, 90, 0);
        for (int i = 0; i < 8; i++) {
            x.river(0, 0, 999);
        }
        for (int i = 0; i < 40; i++) {
            x.go(200);
        }
        Checks.due("loose", x.tons(0, 0, true), 8 * 999 * 8000);
        x.set(0, 0, 100);
        x.go(1);
        Checks.due("all of it settles", x.tons(0, 0, false), 8 * 999 * 8001);
        x.set(0, 0, 0);
        x.set(0, 1, 100);
        x.way(0, 8, 0, 99);
        x.go(1);
        Checks.due("99 of 100 are gone", x.count(5), (int) (8L * 999 * 8001 * 99 / 100));
        Checks.due("count(4)", x.count(4), 8 * 999 * 8002 - (int) (8L * 999 * 8001 * 99 / 100));
    }

    private static void dredgerSettings() {
        HarbourMud x = new HarbourMud();
        Checks.refused(x, "dredger(3, 0) without cells", () -> x.dredger(3, 0), -1);
        Checks.refused(x, "dredger(1, 0) without cells", () -> x.dredger(1, 0), -1);
        Checks.due("dredger(1, 8) without cells", x.dredger(1, 8), 8);
        Checks.refused(x, "takes() without cells", x::takes, -3);
        x.cell(30, 20);
        x.cell(30, 20);
        Checks.refused(x, "dredger(5, -1)", () -> x.dredger(5, -1), -2);
        Checks.refused(x, "dredger(-1, 0)", () -> x.dredger(-1, 0), -2);
        for (int v : new int[] {-1, 2, 7, 9, Integer.MIN_VALUE, Integer.MAX_VALUE}) {
            Checks.refused(x, "dredger(1, " + v + ")", () -> x.dredger(1, v), -1);
            Checks.refused(x, "dredger(3, " + v + ")", () -> x.dredger(3, v), -1);
        }
        Checks.refused(x, "dredger(3, 8)", () -> x.dredger(3, 8), -1);
        int[] most = {999, 8, 4, 1, 99};
        int[] first = {0, 8, 0, 0, 1};
        for (int what : new int[] {0, 2, 4}) {
            Checks.refused(x, "dredger(" + what + ", -1)", () -> x.dredger(what, -1), -4);
            Checks.refused(x, "dredger(" + what + ", above)", () -> x.dredger(what, most[what] + 1), -6);
        }
        for (int what = 0; what <= 4; what++) {
            Checks.due("dredger(" + what + ", most)", x.dredger(what, most[what]), first[what]);
        }
        for (int what = 0; what <= 4; what++) {
            Checks.due("dredger(" + what + ", 0)", x.dredger(what, 0), most[what]);
            Checks.due("dredger(" + what + ", 1)", x.dredger(what, 1), 0);
        }
        for (int what = 0; what <= 4; what++) {
            Checks.due("dredger(" + what + ", 0): each its own", x.dredger(what, 0), 1);
        }
    }

    private static void takingMudFirst() {
        HarbourMud x = new HarbourMud();
        stillCell(x, 30, 30);
        x.put(0, 0, false, 1000);
        x.put(0, 1, false, 70);
        x.put(0, 1, true, 500);
        x.dredger(0, 50);
        x.go(1);
        Checks.due("mud", x.tons(0, 1, false), 20);
        Checks.due("sand", x.tons(0, 0, false), 1000);
        x.go(1);
        Checks.due("mud", x.tons(0, 1, false), 0);
        Checks.due("sand", x.tons(0, 0, false), 970);
        Checks.due("loose is not taken", x.tons(0, 1, true), 500);
        Checks.due("taken", x.count(6), 100);
        Checks.due("gone", x.count(5), 100);
        x.dredger(0, 999);
        x.go(1);
        // all of it: the PLAN chose it with 9 feet lacking
        Checks.due("sand", x.tons(0, 0, false), 0);
        Checks.due("taken", x.count(6), 1070);
        x.go(5);
        Checks.due("taken: nothing lacks", x.count(6), 1070);
    }

    private static void droppingInACell() {
        HarbourMud x = new HarbourMud();
        stillCell(x, 30, 30);
        stillCell(x, 30, 0);
        x.put(0, 0, false, 100);
        x.put(0, 1, false, 100);
        x.dredger(0, 150);
        x.dredger(1, 1);
        x.set(1, 0, 100);
        x.go(1);
        Checks.due("mud is loose at the drop", x.tons(1, 1, true), 100);
        Checks.due("sand is loose at the drop", x.tons(1, 0, true), 50);
        Checks.due("sand left", x.tons(0, 0, false), 50);
        Checks.due("gone", x.count(5), 0);
        Checks.due("taken", x.count(6), 150);
        Checks.due("all", x.count(4), 200);
        x.go(1);
        Checks.due("it settles on the next tide", x.tons(1, 1, false), 100);
    }

    private static void near() {
        HarbourMud x = new HarbourMud();
        stillCell(x, 30, 28);
        stillCell(x, 30, 30);
        stillCell(x, 30, 30);
        Checks.due("nothing lacks", x.takes(), -9);
        x.put(0, 0, false, 9000);
        x.set(0, 3, 0);
        Checks.due("the cell with most lacks nothing", x.takes(), -9);
        x.put(1, 0, false, 100);
        x.put(2, 0, false, 199);
        Checks.due("of several the least", x.takes(), 1);
        x.put(2, 0, false, 1);
        Checks.due("the one that lacks most", x.takes(), 2);
        x.dredger(1, 2);
        Checks.due("the drop is passed over", x.takes(), 1);
        x.dredger(1, 1);
        Checks.due("the drop is passed over", x.takes(), 2);
        x.dredger(1, 0);
        x.dredger(0, 100);
        x.go(1);
        Checks.due("settled in 2", x.tons(2, 0, false), 100);
        x.go(1);
        Checks.due("settled in 1", x.tons(1, 0, false), 0);
        x.set(1, 3, 99);
        Checks.due("whether or not anything is settled there", x.takes(), 1);
        Checks.due("lacks by itself", x.lacks(1), 69);
        // chosen behind the settling of the same TIDE, not ahead of it
        HarbourMud y = new HarbourMud();
        stillCell(y, 30, 30);
        y.cell(30, 30);
        y.set(1, 1, 0);
        y.put(0, 0, false, 100);
        y.put(1, 0, true, 1000);
        y.dredger(0, 10);
        Checks.due("as it lies now", y.takes(), 0);
        y.go(1);
        Checks.due("not taken from 0", y.tons(0, 0, false), 100);
        Checks.due("taken from 1", y.tons(1, 0, false), 490);
    }

    private static void ebb() {
        HarbourMud x = new HarbourMud();
        stillCell(x, 30, 30);
        stillCell(x, 30, 30);
        x.moon(2, 2);
        x.put(0, 1, false, 500);
        x.dredger(0, 100);
        x.dredger(2, 1);
        Checks.due("a spring comes", x.takes(), -9);
        x.go(1);
        Checks.due("taken", x.count(6), 0);
        Checks.due("a neap comes", x.takes(), 0);
        x.dredger(1, 0);
        Checks.due("the drop is passed over", x.takes(), -9);
        x.dredger(1, 1);
        x.go(1);
        Checks.due("taken", x.count(6), 100);
        Checks.due("loose at the drop", x.tons(1, 1, true), 100);
    }

    private static void trap() {
        HarbourMud x = new HarbourMud();
        stillCell(x, 30, 30);
        stillCell(x, 30, 0);
        x.put(0, 1, false, 500);
        x.put(1, 1, false, 150);
        x.dredger(0, 100);
        x.dredger(2, 2);
        x.dredger(3, 1);
        Checks.due("whatever it lacks", x.takes(), 1);
        x.go(1);
        Checks.due("taken from 1", x.tons(1, 1, false), 50);
        x.go(2);
        Checks.due("as many as are there", x.count(6), 150);
        Checks.due("though nothing is left", x.takes(), 1);
        x.dredger(1, 1);
        Checks.due("the drop", x.takes(), -9);
        x.put(1, 1, false, 150);
        x.go(1);
        Checks.due("nothing is taken from the drop", x.tons(1, 1, false), 150);
        Checks.due("nor counted", x.count(6), 150);
        Checks.due("nor from another", x.tons(0, 1, false), 500);
    }

    private static void deep() {
        HarbourMud x = new HarbourMud();
        stillCell(x, 30, 28);
        stillCell(x, 30, 29);
        stillCell(x, 30, 29);
        x.dredger(2, 3);
        Checks.due("lacks -2, -1, -1: of several the least", x.takes(), 1);
        x.put(0, 0, false, 99);
        x.put(2, 0, false, 30);
        x.put(2, 1, false, 30);
        x.put(1, 0, false, 40);
        Checks.due("both stuffs count", x.takes(), 2);
        x.put(0, 0, false, 1);
        Checks.due("lacks -1, too", x.takes(), 0);
        x.dredger(1, 0);
        Checks.due("the drop is passed over", x.takes(), 2);
        x.set(1, 3, 0);
        x.set(2, 3, 0);
        Checks.due("none without any", x.takes(), -9);
        x.dredger(1, 8);
        x.dredger(0, 10);
        x.go(1);
        Checks.due("taken from 0", x.tons(0, 0, false), 90);
        x.go(1);
        Checks.due("it lacks -2 now", x.tons(0, 0, false), 90);
    }

    private static void told() {
        HarbourMud x = new HarbourMud();
        stillCell(x, 30, 30);
        stillCell(x, 30, 30);
        stillCell(x, 30, 0);
        x.moon(2, 2);
        x.put(0, 0, false, 200);
        x.put(1, 0, false, 300);
        x.put(2, 0, false, 400);
        x.dredger(0, 10);
        x.dredger(2, 4);
        x.dredger(3, 2);
        Checks.due("the told cell at springs", x.takes(), 2);
        x.dredger(1, 2);
        Checks.due("nothing from the drop", x.takes(), -9);
        x.go(1);
        Checks.due("taken", x.count(6), 0);
        Checks.due("as near at neaps", x.takes(), 1);
        x.dredger(1, 1);
        Checks.due("as near, the drop passed over", x.takes(), 0);
        x.dredger(1, 2);
        x.go(1);
        Checks.due("taken from 1", x.tons(1, 0, false), 290);
        x.dredger(1, 8);
        x.go(1);
        Checks.due("taken from 2", x.tons(2, 0, false), 390);
    }
}
