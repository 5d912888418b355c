import java.util.function.Supplier;

/** Promises 2 and 3: the TEXT and COASTS. */
public final class CoastTest {
    public static void main(String[] args) {
        feeding();
        comes();
        cannotGoOn();
        isNotAsItMustBe();
        aheadOfIt();
        noRoom();
        nothingComes();
        moonsAndNumbers();
        longest();
        Checks.end("CoastTest");
    }

    private static void feeding() {
        HarbourMud x = new HarbourMud();
        Checks.refused(x, "feed(0, 0)", () -> x.feed(0, 0), -4);
        Checks.refused(x, "feed(-5, 0)", () -> x.feed(-5, 0), -4);
        Checks.refused(x, "feed(9, 0)", () -> x.feed(9, 0), -6);
        Checks.refused(x, "feed(max, 0)", () -> x.feed(Integer.MAX_VALUE, 0), -6);
        Checks.due("feed(1, ..)", x.feed(1, 'm'), 1);
        Checks.due("feed(3, ..): the lowest first, the rest tells nothing", x.feed(3, 's' | 'n' << 8 | ';' << 16 | 77L << 24), 4);
        Checks.due("count(7)", x.count(7), 4);
        Checks.due("coast()", x.coast(), 1);
        Checks.due("count(7)", x.count(7), 0);
        Checks.due("count(9)", x.count(9), 2);
        for (int i = 1; i <= 12; i++) {
            Checks.due("feed(8, -1)", x.feed(8, -1), 8 * i);
        }
        Checks.refused(x, "feed(1, 0) at 96", () -> x.feed(1, 0), -6);
        Checks.due("coast()", x.coast(), -1000);
        Checks.feedAll(x, "m".repeat(90));
        Checks.refused(x, "feed(7, 0) at 90", () -> x.feed(7, 0), -6);
        Checks.due("feed(6, 0) at 90", x.feed(6, 0), 96);
    }

    private static void comes() {
        HarbourMud x = new HarbourMud();
        Checks.due("coast", Checks.coastOf(x, "c30,29;c40,0;w01sS30;w18nM100;r1M999;mns;"), 6);
        Checks.due("cells", x.count(0), 2);
        Checks.due("ways", x.count(1), 2);
        Checks.due("rivers", x.count(2), 1);
        Checks.due("kinds", x.count(9), 2);
        Checks.due("base", x.depth(0), 30);
        Checks.due("wanted", x.lacks(0), -1);
        Checks.due("wanted", x.lacks(1), -40);
        Checks.due("settles", x.set(0, 0, 0), 50);
        Checks.due("stirs", x.set(0, 1, 0), 20);
        x.set(1, 0, 0);
        x.put(0, 0, true, 100);
        x.put(1, 1, true, 100);
        x.go(1);
        Checks.due("a neap first: mud is out at sea", x.count(5), 100);
        Checks.due("and the river's comes", x.tons(1, 1, true), 999);
        Checks.due("sand stays", x.tons(0, 0, true), 100);
        x.go(1);
        Checks.due("a spring then: sand goes", x.tons(1, 0, true), 30);
        Checks.due("mud stays", x.count(5), 100);
    }

    private static void fault(Supplier<HarbourMud> made, String text, int want) {
        HarbourMud x = made.get();
        String before = Checks.lookOf(x);
        Checks.due("coast " + text, Checks.coastOf(x, text), want);
        Checks.same("behind " + text, Checks.lookOf(x), before);
        for (int i = 11; i <= 16; i++) {
            Checks.due("a fault is not counted", x.count(i), 0);
        }
    }

    private static HarbourMud twoCells() {
        HarbourMud x = new HarbourMud();
        x.cell(30, 30);
        x.cell(30, 30);
        return x;
    }

    private static void cannotGoOn() {
        Supplier<HarbourMud> x = CoastTest::twoCells;
        fault(x, "", -1000);
        String whole = "c12,345;w01sM100;r0S7;msn;";
        String ends = "";
        for (int i = 1; i < whole.length(); i++) {
            ends = whole.substring(0, i);
            if (!ends.endsWith(";")) {
                fault(x, ends, -1000 - i);
            }
            fault(x, ends + (char) 200, -1000 - i);
            fault(x, ends + "x;", -1000 - i);
            fault(x, ends + "\0", -1000 - i);
        }
        String[] texts = {";", "c;", "c,", "c1;", "c1,;", "c01,1;", "c00,1;", "c0,00;", "c1234,1;", "c1,1234;", "c1,1,",
            "c1,1c", "c-1,1;", "C1,1;", "w;", "w0;", "w01;", "w01M", "w01sn", "w01s;", "w01sM;", "w01sM05;", "w01sM1000;",
            "w01nS1,", "wab", "w01Sn", "r;", "rS", "r00", "r0s", "r0S;", "r0M00;", "r0M1234;", "m;", "mS;", "msx;", "msm",
            "ms;;", "ms; ms;", "ms;n;", "\n", "m " + "s;", "ms;c1,1;w"};
        int[] places = {0, 1, 1, 2, 3, 2, 2, 4, 4, 6, 4,
            4, 1, 0, 1, 2, 3, 3, 4, 4, 5, 6, 8,
            6, 1, 3, 1, 1, 2, 2, 3, 4, 6, 1, 1, 2, 2,
            3, 3, 3, 0, 1, 9};
        for (int i = 0; i < texts.length; i++) {
            fault(x, texts[i], -1000 - places[i]);
        }
        fault(x, "w99sM999;c0,0;x", -1014);
    }

    private static HarbourMud twoCellsAndAWay() {
        HarbourMud x = twoCells();
        x.way(0, 1, 10, 60);
        return x;
    }

    private static void isNotAsItMustBe() {
        String[] texts = {"c0,5;", "c100,5;", "c5,100;", "c999,999;", "w00sM5;", "w02sM5;", "w20sM5;", "w80sM5;", "w88sM5;",
            "w09sM5;", "w90sM5;", "w01sS0;", "w01sS101;", "w01sS999;", "w01sM41;", "r2S5;", "r8S5;", "r9S5;", "r0S0;"};
        for (String text : texts) {
            fault(CoastTest::twoCellsAndAWay, text, -2000);
            fault(CoastTest::twoCellsAndAWay, "c1,0;" + text.replace("2", "7"), -2005);
            fault(CoastTest::twoCellsAndAWay, "ms;" + text + "c0,0;", -2003);
        }
        HarbourMud x = twoCellsAndAWay();
        Checks.due("as much as there is room for", Checks.coastOf(x, "w01sM40;w01sS100;w01nM100;r0S1;r1M999;"), 5);
        fault(() -> x, "w08sM1;", -2000);
    }

    private static void aheadOfIt() {
        HarbourMud x = new HarbourMud();
        fault(() -> x, "r0S5;c5,5;", -2000);
        fault(() -> x, "c5,5;w01sS5;c5,5;", -2005);
        fault(() -> x, "c5,5;w08sS60;w08sS41;", -2013);
        fault(() -> x, "c5,5;w08sS60;w08sS40;c5,5;w01sS1;", -2026);
        Checks.due("the same with one cell ahead", Checks.coastOf(x, "c5,5;c5,5;w01sS5;w10sS5;"), 4);
        Checks.due("more", Checks.coastOf(x, "c5,5;w21sS5;"), 2);
        Checks.due("cells", x.count(0), 3);
        Checks.due("ways", x.count(1), 3);
    }

    private static HarbourMud coasts(String... texts) {
        HarbourMud x = new HarbourMud();
        for (String text : texts) {
            Checks.due("coast " + text, Checks.coastOf(x, text) > 0 ? 1 : 0, 1);
        }
        return x;
    }

    private static void noRoom() {
        String cells = "c1,1;".repeat(8);
        String rivers = "r0S1;".repeat(8);
        String ways = "w01sS1;".repeat(12);
        fault(HarbourMud::new, cells + "c1,1;", -2040);
        fault(() -> coasts(cells), "c1,1;", -2000);
        fault(() -> coasts(cells), rivers + "r0S1;", -2040);
        fault(() -> coasts(cells, rivers), "ms;r0S1;", -2003);
        fault(() -> coasts(cells, ways), ways + "w01sS1;", -2084);
        fault(() -> coasts(cells, ways, ways), "w10sS1;", -2000);
    }

    private static void nothingComes() {
        HarbourMud x = new HarbourMud();
        x.cell(30, 20);
        fault(() -> x, "c5,5;w01sS5;r1M5;mnnn;c0,0;", -2022);
        fault(() -> x, "c5,5;w01sS5;r1M5;mnnn;c", -1023);
        Checks.due("cells", x.count(0), 1);
        Checks.due("ways", x.count(1), 0);
        Checks.due("rivers", x.count(2), 0);
        Checks.due("kinds", x.count(9), 1);
        // a FAULT's first pages leave nothing in a CELL that comes then
        Checks.due("cell(9, 9)", x.cell(9, 9), 1);
        Checks.due("depth(1)", x.depth(1), 9);
    }

    private static void moonsAndNumbers() {
        HarbourMud x = new HarbourMud();
        Checks.due("28", Checks.coastOf(x, "m" + "sn".repeat(14) + ";"), 1);
        Checks.due("kinds", x.count(9), 28);
        fault(() -> x, "m" + "n".repeat(29) + ";", -1029);
        fault(() -> x, "m" + "n".repeat(28), -1029);
        Checks.due("the last moon is the one", Checks.coastOf(x, "mss;mn;msss;mnn;c9,0;"), 5);
        Checks.due("kinds", x.count(9), 2);
        x.put(0, 0, false, 100);
        x.set(0, 0, 0);
        x.go(2);
        Checks.due("neaps", x.tons(0, 0, false), 100);
        Checks.due("springs behind neaps", Checks.coastOf(x, "mnnn;mss;"), 2);
        x.go(1);
        Checks.due("a spring", x.tons(0, 0, false), 80);
        Checks.due("c99,99", Checks.coastOf(x, "c99,99;c1,0;"), 2);
        Checks.due("depth(1)", x.depth(1), 99);
        Checks.due("lacks(1)", x.lacks(1), 0);
        Checks.due("lacks(2)", x.lacks(2), -1);
    }

    private static void longest() {
        HarbourMud x = new HarbourMud();
        Checks.due("96 bytes", Checks.coastOf(x, "ms;".repeat(32)), 32);
        Checks.due("96 bytes, the last lacks", Checks.coastOf(x, "ms;".repeat(31) + "mss"), -1096);
        Checks.due("96 bytes, all digits", Checks.coastOf(x, "c" + "1".repeat(95)), -1004);
    }
}
