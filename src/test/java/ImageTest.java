/** Promises 28 to 30: THE IMAGE, and what is counted. */
public final class ImageTest {
    public static void main(String[] args) {
        empty();
        allComesBack();
        whatStays();
        counts();
        allAgainstAllThatCame();
        Checks.end("ImageTest");
    }

    private static void empty() {
        HarbourMud x = new HarbourMud();
        Checks.refused(x, "restore()", x::restore, -3);
        Checks.due("image() without cells", x.image(), 0);
        x.cell(30, 20);
        x.cell(30, 20);
        x.moon(5, 3);
        x.river(1, 0, 5);
        x.way(0, 1, 0, 50);
        x.go(3);
        Checks.due("restore()", x.restore(), 0);
        Checks.due("cells", x.count(0), 0);
        Checks.due("ways", x.count(1), 0);
        Checks.due("rivers", x.count(2), 0);
        Checks.due("tides", x.count(3), 0);
        Checks.due("tons", x.count(4), 0);
        Checks.due("kinds", x.count(9), 1);
        Checks.due("cell(7, 7)", x.cell(7, 7), 0);
        Checks.due("settles of a new one", x.set(0, 0, 50), 50);
        Checks.due("tons of a new one", x.tons(0, 0, true) + x.tons(0, 0, false), 0);
    }

    private static HarbourMud full() {
        HarbourMud x = new HarbourMud();
        Checks.coastOf(x, "c20,19;c25,20;c30,28;w01sM30;w10nS50;w08sS9;w20nM40;r0M120;r1S33;msnn;");
        x.dredger(0, 90);
        x.dredger(1, 2);
        x.dredger(2, 4);
        x.dredger(3, 1);
        x.dredger(4, 7);
        x.set(0, 0, 60);
        x.set(1, 1, 33);
        x.set(2, 2, 44);
        x.shut(1, true);
        x.put(2, 0, false, 700);
        x.go(13);
        return x;
    }

    private static void allComesBack() {
        HarbourMud x = full();
        x.put(0, 0, true, 500);
        x.go(5);
        Checks.due("some is gone", x.count(5) > 0 ? 1 : 0, 1);
        String before = Checks.lookOf(x);
        Checks.due("image()", x.image(), 3);
        x.cell(50, 50);
        x.way(3, 8, 0, 100);
        x.river(3, 0, 55);
        x.moon(1, 1);
        x.put(2, 1, true, 1000);
        x.way(2, 8, 110, 50);
        x.go(50);
        Checks.due("some is gone", x.count(5) > 0 ? 1 : 0, 1);
        int[] values = {77, 8, 0, 3, 55};
        for (int what = 0; what < 5; what++) {
            x.dredger(what, values[what]);
        }
        for (int what = 0; what < 4; what++) {
            x.set(0, what, 71);
            x.set(1, what, 72);
            x.set(2, what, 73);
        }
        x.shut(0, true);
        x.shut(1, false);
        x.put(0, 1, true, 9999);
        Checks.due("restore()", x.restore(), 3);
        Checks.same("all comes back", Checks.lookOf(x), before);
        int[] was = {90, 2, 4, 1, 7};
        for (int what = 0; what < 5; what++) {
            Checks.due("dredger(" + what + ", ..)", x.dredger(what, 0), was[what]);
        }
        int[] settings = {60, 20, 1, 19, 50, 33, 1, 20, 50, 20, 44, 28};
        for (int i = 0; i < 12; i++) {
            Checks.due("set(" + i / 4 + ", " + i % 4 + ", ..)", x.set(i / 4, i % 4, 0), settings[i]);
        }
        Checks.due("shut(0, true)", x.shut(0, true), 1);
        Checks.due("shut(1, true)", x.shut(1, true), 0);
        Checks.due("restore() again", x.restore(), 3);
        Checks.same("it is there still", Checks.lookOf(x), before);
        x.go(1);
        String later = Checks.lookOf(x);
        Checks.due("image() again", x.image(), 3);
        x.go(9);
        x.restore();
        Checks.same("the newer one", Checks.lookOf(x), later);
    }

    private static void whatStays() {
        HarbourMud x = full();
        x.feed(3, 0x3b736dL);
        x.row(0);
        x.depth(99);
        x.image();
        x.feed(3, 0x3b736dL);
        x.row(1);
        x.row(9);
        x.depth(99);
        x.depth(99);
        x.go(0);
        x.restore();
        Checks.due("bytes of the text", x.count(7), 6);
        Checks.due("bytes of the row", x.count(8), 3);
        Checks.due("refusals -1", x.count(11), 3);
        Checks.due("refusals -4", x.count(14), 1);
        Checks.due("judge(0)", x.judge(0), -9);
        Checks.due("coast()", x.coast(), 2);
    }

    private static void counts() {
        for (int what : new int[] {-1, 10, 17, 99, -9, Integer.MIN_VALUE, Integer.MAX_VALUE}) {
            HarbourMud looked = full();
            String before = Checks.lookOf(looked);
            Checks.due("count(" + what + ")", looked.count(what), -9);
            Checks.same("behind count(" + what + ")", Checks.lookOf(looked), before);
        }
        HarbourMud x = full();
        x.tons(9, 0, true);
        x.lacks(9);
        x.back(9, 0, 1, 1, 1);
        x.share(9, 1);
        Checks.due("refusals -1", x.count(11), 4);
        x.set(0, 9, 0);
        x.judge(9);
        x.dredger(9, 0);
        Checks.due("refusals -2", x.count(12), 3);
        x.restore();
        Checks.due("refusals -3", x.count(13), 1);
        x.cost(0);
        x.share(0, 0);
        x.feed(0, 0);
        Checks.due("refusals -4", x.count(14), 3);
        Checks.due("refusals -5", x.count(15), 0);
        x.cost(201);
        x.back(0, 0, 1, 1, 201);
        Checks.due("refusals -6", x.count(16), 2);
    }

    private static void allAgainstAllThatCame() {
        HarbourMud x = full();
        x.dredger(1, 8);
        x.shut(1, false);
        for (int i = 0; i < 40; i++) {
            x.go(5);
            x.dredger(2, i % 5);
            int came = 700 + x.count(3) * (120 + 33);
            Checks.due("tons in cells and gone", x.count(4) + x.count(5), came);
        }
        Checks.due("something went both ways", x.count(6) > 0 && x.count(5) > x.count(6) ? 1 : 0, 1);
    }
}
