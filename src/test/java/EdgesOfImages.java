/** The Terms' IMAGE; promises 28 to 30. */
final class EdgesOfImages {
    private static final int SAND = 0;
    private static final int MUD = 1;
    private static final boolean LOOSE = true;
    private static final boolean SETTLED = false;

    private EdgesOfImages() {
    }

    static void look() {
        allThatThereIs();
        allButIt();
        nothingLeftBehind();
        images();
        restores();
        counts();
        countsOfRefusals();
        otherCounts();
    }

    /** Changes all that can be changed. */
    private static void stirAll(HarbourMud x) {
        x.cell(50, 51);
        int cells = x.count(0);
        for (int cell = 0; cell < cells; cell++) {
            for (int what = 0; what < 4; what++) {
                x.set(cell, what, 60 + cell + what);
            }
            x.put(cell, SAND, LOOSE, 1000 + cell);
            x.put(cell, MUD, SETTLED, 2000 + cell);
        }
        for (int way = 0; way < x.count(1); way++) {
            if (x.shut(way, true) == 0) {
                x.shut(way, false);
            }
        }
        x.way(cells - 1, 8, 0, 33);
        x.river(cells - 1, MUD, 444);
        x.moon(2, 1);
        int[] values = {555, 8, 2, cells - 1, 66};
        for (int what = 0; what <= 4; what++) {
            x.dredger(what, values[what]);
        }
        int gone = x.count(5);
        int taken = x.count(6);
        x.go(9);
        Checks.yes("something went out to sea and was taken", x.count(5) > gone && x.count(6) > taken);
    }

    private static void allThatThereIs() {
        Sentences.quoteTerms("THE IMAGE: all that there is, but it,");
        for (int judged = 0; judged <= 2; judged++) {
            HarbourMud x = Harbours.some();
            HarbourMud alike = Harbours.some();
            Checks.due("image()", x.image(), 3);
            Checks.due("image()", alike.image(), 3);
            stirAll(x);
            Checks.due("restore()", x.restore(), 3);
            Checks.same("all there is", Harbours.allOf(x, judged), Harbours.allOf(alike, judged));
        }
        HarbourMud full = Harbours.full();
        HarbourMud alike = Harbours.full();
        Checks.due("image() of the full harbour", full.image(), 8);
        Checks.due("image() of the full harbour", alike.image(), 8);
        stirAll(full);
        Checks.due("restore()", full.restore(), 8);
        Checks.same("all there is in the full harbour", Harbours.harbourOf(full), Harbours.harbourOf(alike));
        HarbourMud x = Harbours.one();
        x.image();
        x.cell(9, 9);
        x.image();
        x.cell(9, 9);
        Checks.due("the later IMAGE", x.restore(), 2);
        Checks.due("the earlier one is not in it", x.restore(), 2);
    }

    private static void allButIt() {
        Sentences.quoteTerms("the TEXT, the ROW, REFUSALS.");
        HarbourMud x = Harbours.one();
        x.feed(1, 'm');
        x.row(0);
        x.depth(9);
        x.image();
        x.feed(2, 's' | ';' << 8);
        x.row(9);
        x.row(9);
        x.depth(9);
        x.go(0);
        x.go(201);
        x.set(0, 9, 9);
        Checks.due("restore()", x.restore(), 1);
        Checks.due("bytes of the TEXT", x.count(7), 3);
        Checks.due("bytes of the ROW", x.count(8), 3);
        int[] refusals = {2, 1, 0, 1, 0, 1};
        for (int i = 0; i < 6; i++) {
            Checks.due("count(" + (11 + i) + ")", x.count(11 + i), refusals[i]);
        }
        Checks.due("the TEXT is as it was", x.coast(), 1);
        Checks.due("the ROW is as it was", x.judge(0), 0);
        x.restore();
        Checks.due("no TEXT comes back", x.count(7), 0);
        Checks.due("no ROW comes back", x.count(8), 0);
    }

    /** What was there and is no more tells nothing of what comes in its place. */
    private static void nothingLeftBehind() {
        Sentences.quote(29, "It is RESTORED:");
        HarbourMud x = Harbours.one();
        x.image();
        stirAll(x);
        x.shut(0, true);
        x.restore();
        Checks.due("a CELL in the place of another", x.cell(7, 6), 1);
        Checks.due("depth(1)", x.depth(1), 7);
        Checks.due("lacks(1)", x.lacks(1), -1);
        for (int i = 0; i < 4; i++) {
            Checks.due("tons of it", x.tons(1, i & 1, i < 2), 0);
        }
        Checks.due("a WAY in the place of another", x.way(1, 8, 0, 100), 0);
        Checks.due("it is not SHUT", x.shut(0, false), 0);
        Checks.due("a RIVER in the place of another", x.river(1, SAND, 5), 0);
        Checks.due("SETTLES", x.set(1, 0, 0), 50);
        Checks.due("STIRS", x.set(1, 1, 0), 20);
        Checks.due("PRICE", x.set(1, 2, 0), 1);
        x.go(1);
        Checks.due("what the RIVER brought", x.count(4), 5);
        x.go(1);
        Checks.due("what went along the WAY", x.count(5), 5);
    }

    private static void images() {
        Sentences.quote(28, "THE IMAGE is taken: how many CELLS.");
        Checks.due("none", new HarbourMud().image(), 0);
        Checks.due("one", Harbours.one().image(), 1);
        Checks.due("eight", Harbours.full().image(), 8);
        HarbourMud x = Harbours.some();
        HarbourMud alike = Harbours.some();
        x.image();
        x.image();
        alike.image();
        Checks.same("taken twice", Harbours.allOf(x, 1), Harbours.allOf(alike, 1));
        HarbourMud y = Harbours.some();
        y.image();
        for (int i = 11; i <= 16; i++) {
            Checks.due("no REFUSAL by it", y.count(i), Harbours.some().count(i));
        }
        Checks.due("the TEXT stays", y.count(7), 7);
        Checks.due("the ROW stays", y.count(8), 3);
    }

    private static void restores() {
        Sentences.quote(29, "how many CELLS.");
        HarbourMud x = new HarbourMud();
        x.image();
        for (int i = 0; i < 8; i++) {
            x.cell(9, 9);
        }
        Checks.due("an IMAGE without CELLS", x.restore(), 0);
        Checks.due("no CELLS", x.count(0), 0);
        Checks.due("go(1)", x.go(1), -3);
        HarbourMud y = Harbours.full();
        y.image();
        Checks.due("eight", y.restore(), 8);
        Checks.due("again", y.restore(), 8);
        y.go(1);
        Checks.due("TIDES", y.count(3), 4);
        y.restore();
        Checks.due("TIDES as they were", y.count(3), 3);
        Checks.due("two of three", Harbours.some().restore(), 2);
        Sentences.quote(29, "-3 there is none.");
        Harbours.refused(Harbours::none, "restore()", HarbourMud::restore, -3);
        Harbours.refused(Harbours::one, "restore()", HarbourMud::restore, -3);
        HarbourMud z = Harbours.one();
        z.restore();
        z.image();
        Checks.due("restore() behind image()", z.restore(), 1);
    }

    private static void counts() {
        Sentences.quote(30, "0 CELLS, 1 WAYS, 2 RIVERS, 3 TIDES that went by,");
        HarbourMud full = Harbours.full();
        int[] most = {8, 24, 8, 3};
        for (int what = 0; what < 4; what++) {
            Checks.due("count(" + what + ") of none", new HarbourMud().count(what), 0);
            Checks.due("count(" + what + ") of the full harbour", full.count(what), most[what]);
        }
        full.cell(1, 1);
        full.way(0, 1, 0, 1);
        full.river(0, 0, 1);
        full.go(201);
        for (int what = 0; what < 4; what++) {
            Checks.due("count(" + what + ") behind REFUSALS", full.count(what), most[what]);
        }
        Sentences.quote(30, "4 tons in all CELLS, 5 tons gone out to sea, 6 tons that the dredger took,");
        HarbourMud x = Harbours.still(9, 9, 9, 0, 9, 0, 9, 0, 9, 0, 9, 0, 9, 0, 9, 0);
        for (int what = 4; what <= 6; what++) {
            Checks.due("count(" + what + ") at first", x.count(what), 0);
        }
        x.put(0, SAND, SETTLED, 300);
        x.put(0, MUD, LOOSE, 20);
        x.put(7, SAND, LOOSE, 4);
        x.put(7, MUD, SETTLED, 1);
        Checks.due("LOOSE and SETTLED of both STUFFS, first and last CELL", x.count(4), 325);
        x.dredger(0, 50);
        x.dredger(1, 7);
        x.go(1);
        Checks.due("as many are in CELLS", x.count(4), 325);
        Checks.due("none is gone", x.count(5), 0);
        Checks.due("50 are taken", x.count(6), 50);
        x.dredger(1, 8);
        x.way(7, 8, 0, 50);
        x.go(1);
        Checks.due("50 and half of 54 are out", x.count(5), 77);
        Checks.due("the rest is in CELLS", x.count(4), 248);
        Checks.due("100 are taken", x.count(6), 100);
        Sentences.quote(30, "7 bytes of the TEXT, 8 bytes of the ROW, 9 KINDS in THE MOON,");
        int[] mostBytes = {96, 28, 28};
        int[] least = {0, 0, 1};
        HarbourMud again = Harbours.full();
        for (int what = 7; what <= 9; what++) {
            Checks.due("count(" + what + ") of none", new HarbourMud().count(what), least[what - 7]);
            Checks.due("count(" + what + ") of the full harbour", again.count(what), mostBytes[what - 7]);
        }
        again.coast();
        again.judge(0);
        Checks.due("bytes of the TEXT behind coast()", again.count(7), 0);
        Checks.due("bytes of the ROW behind judge()", again.count(8), 0);
        Checks.due("KINDS behind coast()", again.count(9), 1);
    }

    private static void countsOfRefusals() {
        Sentences.quote(30, "11 .. 16 REFUSALS -1 .. -6.");
        HarbourMud x = Harbours.one();
        for (int i = 0; i < 5; i++) {
            x.depth(1);
        }
        x.lacks(1);
        x.back(1, 0, 1, 1, 1);
        x.share(0, 1);
        for (int i = 0; i < 4; i++) {
            x.judge(3);
        }
        x.restore();
        for (int i = 0; i < 2; i++) {
            x.go(0);
            x.cost(0);
            x.back(0, 0, 0, 1, 1);
        }
        x.cost(201);
        x.back(0, 0, 1, 1, 201);
        x.row(10);
        int[] many = {8, 4, 1, 6, 0, 3};
        for (int i = 0; i < 6; i++) {
            Checks.due("count(" + (11 + i) + ")", x.count(11 + i), many[i]);
        }
        for (int i = 0; i < 6; i++) {
            Checks.due("count(" + (11 + i) + ") again", x.count(11 + i), many[i]);
        }
    }

    private static void otherCounts() {
        Sentences.quote(30, "-9 for another what.");
        for (int what : new int[] {Integer.MIN_VALUE, -11, -9, -1, 10, 17, 18, 99, Integer.MAX_VALUE}) {
            Checks.due("count(" + what + ")", Harbours.some().count(what), -9);
            Harbours.changesNothing(Harbours::some, "count(" + what + ")", x -> x.count(what));
            Checks.due("count(" + what + ") of none", new HarbourMud().count(what), -9);
        }
        for (int what = 0; what <= 16; what++) {
            int w = what;
            Checks.yes("count(" + what + ") is told", what == 10 || Harbours.full().count(what) >= 0);
            Harbours.changesNothing(Harbours::full, "count(" + what + ")", x -> x.count(w));
        }
    }
}
