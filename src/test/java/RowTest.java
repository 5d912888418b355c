/** Promises 26 and 27: told TIDES are looked at. */
public final class RowTest {
    public static void main(String[] args) {
        rowRefused();
        judgeRefused();
        firstEmpty();
        costsAndFeet();
        emptyRow();
        Checks.end("RowTest");
    }

    private static void rows(HarbourMud x, int... bytes) {
        for (int b : bytes) {
            x.row(b);
        }
    }

    private static void rowRefused() {
        HarbourMud x = new HarbourMud();
        Checks.refused(x, "row(-1)", () -> x.row(-1), -4);
        Checks.refused(x, "row(10)", () -> x.row(10), -6);
        for (int i = 1; i <= 28; i++) {
            Checks.due("row", x.row(i % 10), i);
        }
        Checks.refused(x, "row(0), the 29th", () -> x.row(0), -6);
        Checks.refused(x, "row(-1), the 29th", () -> x.row(-1), -4);
        Checks.due("count(8)", x.count(8), 28);
    }

    private static void judgeRefused() {
        HarbourMud x = new HarbourMud();
        Checks.refused(x, "judge(3)", () -> x.judge(3), -2);
        Checks.refused(x, "judge(-1)", () -> x.judge(-1), -2);
        Checks.refused(x, "judge(0) without cells", () -> x.judge(0), -3);
        rows(x, 9, 9);
        Checks.refused(x, "judge(1) without cells, none told", () -> x.judge(1), -3);
        rows(x, 0);
        Checks.refused(x, "judge(2) without cells, one told", () -> x.judge(2), -1);
        Checks.refused(x, "judge(3) without cells, one told", () -> x.judge(3), -2);
        Checks.due("the row stays", x.count(8), 3);
        x.cell(30, 20);
        Checks.due("judge(0)", x.judge(0), 2);
        Checks.due("the row has none", x.count(8), 0);
        rows(x, 9, 8);
        Checks.refused(x, "judge(0) with the sea told", () -> x.judge(0), -1);
        Checks.due("the row stays", x.count(8), 2);
        HarbourMud y = new HarbourMud();
        y.cell(30, 20);
        rows(y, 1, 0);
        Checks.refused(y, "judge(0), the first is not there", () -> y.judge(0), -1);
    }

    /** Two CELLS in which nothing moves by itself, 150 and 40 tons SETTLED, CAP 100. */
    private static HarbourMud still() {
        HarbourMud x = new HarbourMud();
        for (int cell = 0; cell < 2; cell++) {
            x.cell(30, 30);
            x.set(cell, 0, 0);
            x.set(cell, 1, 0);
        }
        x.put(0, 0, false, 150);
        x.put(1, 1, false, 40);
        x.dredger(0, 100);
        return x;
    }

    private static void firstEmpty() {
        HarbourMud x = still();
        rows(x, 0, 9, 1, 0, 9);
        Checks.due("something at each", x.judge(0), -9);
        rows(x, 0, 9, 0, 1, 0, 1);
        Checks.due("nothing left in 0", x.judge(0), 4);
        x.dredger(1, 0);
        rows(x, 1, 0);
        Checks.due("nothing is taken from the drop", x.judge(0), 1);
        x.dredger(0, 0);
        rows(x, 9, 1);
        Checks.due("nothing by no cap", x.judge(0), 1);
        // the PLAN tells nothing here
        HarbourMud y = still();
        y.dredger(2, 2);
        y.dredger(3, 1);
        y.dredger(0, 40);
        rows(y, 0, 1);
        Checks.due("not from the told cell", y.judge(0), -9);
        Checks.due("nothing went by", y.count(3) + y.count(5) + y.count(6), 0);
        Checks.due("all is there", y.count(4), 190);
    }

    private static void costsAndFeet() {
        HarbourMud x = still();
        rows(x, 9);
        Checks.due("1 foot", x.judge(1), 1);
        rows(x, 0);
        Checks.due("100 out to sea", x.judge(1), 300);
        rows(x, 9, 0, 1, 9);
        Checks.due("1 foot, 100, 40", x.judge(1), 1 + 300 + 120);
        x.dredger(1, 1);
        x.dredger(4, 3);
        rows(x, 0, 0);
        Checks.due("to a cell", x.judge(1), 450);
        x.set(0, 3, 33);
        x.set(1, 3, 99);
        x.set(0, 2, 10);
        rows(x, 9);
        Checks.due("feet, not prices", x.judge(2), 4 + 69);
        rows(x, 0);
        Checks.due("behind it", x.judge(2), 3 + 69);
        x.set(1, 3, 0);
        rows(x, 0);
        Checks.due("above 0 alone", x.judge(2), 3);
        // by THE MOON from now on
        HarbourMud y = still();
        y.moon(2, 2);
        y.way(0, 8, 0, 100);
        y.set(0, 1, 100);
        y.go(1);
        Checks.due("out at the spring", y.count(5), 150);
        y.put(0, 0, false, 150);
        rows(y, 9);
        Checks.due("a neap comes", y.judge(2), 1);
        rows(y, 9, 9);
        Checks.due("then a spring", y.judge(2), 0);
    }

    private static void emptyRow() {
        HarbourMud x = still();
        Checks.due("judge(0)", x.judge(0), -9);
        Checks.due("judge(1)", x.judge(1), 0);
        Checks.due("judge(2): as it lies now", x.judge(2), 1);
    }
}
