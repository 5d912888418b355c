/** The Terms' COASTS and FAULTS; promises 2 and 3. */
final class EdgesOfCoasts {
    private static final String DIGITS = "0123456789";
    private static final String LETTERS = "cwrm";

    private EdgesOfCoasts() {
    }

    static void look() {
        feeding();
        feedingRefused();
        longest();
        statementsEnd();
        cellStatements();
        wayStatements();
        riverStatements();
        moonStatements();
        numbers();
        firstByte();
        atTheEnd();
        outOfRange();
        cellsAheadOfIt();
        oneTwice();
        noRoom();
        tooManyHundredths();
        firstOfSeveral();
        allOrNothing();
        coasts();
    }

    private static HarbourMud fed(String text) {
        HarbourMud x = new HarbourMud();
        Checks.feedAll(x, text);
        return x;
    }

    /** Two CELLS, and 60 hundredths of MUD at SPRINGS from 0 to 1. */
    private static HarbourMud two() {
        HarbourMud x = Harbours.still(30, 0, 30, 0);
        x.way(0, 1, 10, 60);
        return x;
    }

    private static void comes(String text, int statements) {
        Checks.due("\"" + text + "\"", Checks.coastOf(two(), text), statements);
    }

    /** It answers the FAULT; nothing comes, the TEXT has none, no REFUSAL is counted. */
    private static void fault(String text, int want) {
        HarbourMud x = two();
        HarbourMud alike = two();
        Checks.due("\"" + text + "\"", Checks.coastOf(x, text), want);
        for (int what = 11; what <= 16; what++) {
            Checks.due("count(" + what + ") behind \"" + text + "\"", x.count(what), 0);
        }
        Checks.same("all there is behind \"" + text + "\"", Harbours.allOf(x, 1), Harbours.allOf(alike, 1));
    }

    private static void feeding() {
        Sentences.quote(2, "n (1 .. 8) bytes come to the TEXT, the lowest first: how many it has.");
        long bytes = 0;
        for (int i = 7; i >= 0; i--) {
            bytes = bytes << 8 | "c12,34;m".charAt(i);
        }
        for (int n = 1; n <= 8; n++) {
            HarbourMud x = new HarbourMud();
            Checks.due("feed(" + n + ")", x.feed(n, bytes), n);
            Checks.due("count(7)", x.count(7), n);
            // 7 bytes are a COAST; of fewer something lacks at the end, of 8 behind "m"
            Checks.due("coast() of " + n, x.coast(), n == 7 ? 1 : -1000 - n);
            Checks.due("a CELL came", x.count(0), n == 7 ? 1 : 0);
        }
        HarbourMud y = new HarbourMud();
        Checks.due("one", y.feed(1, 'm'), 1);
        Checks.due("two more", y.feed(2, 's' | (long) ';' << 8), 3);
        Checks.due("in their order", y.coast(), 1);
        Checks.due("bytes above 127", y.feed(8, -1), 8);
        Checks.due("0 is a byte", y.feed(1, 0), 9);
        Checks.due("none of them is a letter", y.coast(), -1000);
        HarbourMud z = new HarbourMud();
        z.feed(1, 0x136dL);
        z.feed(1, 0xffffffffffffff73L);
        z.feed(1, Long.MIN_VALUE | ';');
        Checks.due("what is behind the n-th tells nothing", z.coast(), 1);
        HarbourMud above = new HarbourMud();
        above.feed(3, 'm' | ('s' | 128) << 8 | ';' << 16);
        Checks.due("a byte is all its eight bits", above.coast(), -1001);
    }

    private static HarbourMud fedTo(int length) {
        HarbourMud x = new HarbourMud();
        Checks.feedAll(x, "m".repeat(length));
        return x;
    }

    private static void feedingRefused() {
        Sentences.quote(2, "-4; -6 (above 96, too).");
        for (int n : new int[] {Integer.MIN_VALUE, -1, 0}) {
            Harbours.refused(Harbours::some, "feed(" + n + ")", x -> x.feed(n, 99), -4);
            Harbours.refused(Harbours::full, "feed(" + n + ") at 96", x -> x.feed(n, 99), -4);
        }
        for (int n : new int[] {9, 96, Integer.MAX_VALUE}) {
            Harbours.refused(Harbours::some, "feed(" + n + ")", x -> x.feed(n, 99), -6);
        }
        for (int n = 1; n <= 8; n++) {
            int most = n;
            Checks.due("feed(" + n + ") to 96", fedTo(96 - n).feed(n, 0), 96);
            Harbours.refused(() -> fedTo(97 - most), "feed(" + n + ") to 97", x -> x.feed(most, 0), -6);
            Harbours.refused(Harbours::full, "feed(" + n + ") at 96", x -> x.feed(most, 0), -6);
        }
        HarbourMud x = fedTo(96);
        x.coast();
        Checks.due("room again behind coast()", x.feed(8, 0), 8);
    }

    private static void longest() {
        Sentences.quoteTerms("A COAST is a TEXT (96 bytes at most):");
        Checks.due("96 bytes", fed("ms;".repeat(32)).coast(), 32);
        Checks.due("95 bytes", fed("ms;".repeat(30) + "mnnn;").coast(), 31);
        Checks.due("96 bytes and the end lacks", fed("ms;".repeat(31) + "mss").coast(), -1096);
        Checks.due("the 96th byte is wrong", fed("ms;".repeat(31) + "ms,").coast(), -1095);
        Checks.due("the last of 96 is not as it must be", fed("ms;".repeat(30) + "r0S10;").coast(), -2090);
    }

    private static void statementsEnd() {
        Sentences.quoteTerms("STATEMENTS, each with \";\" behind:");
        comes("c1,1;", 1);
        comes("c1,1;c1,1;", 2);
        fault("c1,1", -1004);
        fault("c1,1;c1,1", -1009);
        fault("c1,1;;", -1005);
        fault(";", -1000);
        fault(";c1,1;", -1000);
        fault("c1,1; ", -1005);
        fault("c1,1 ;", -1004);
        fault("c1,1\n", -1004);
        fault("c1,1;\n", -1005);
        fault("msc1,1;", -1002);
    }

    /** At each place of a STATEMENT that stands alone each byte is tried: those that are told can go on, no other. */
    private static void eachByte(String text, String... canGoOn) {
        Checks.due("places of " + text, canGoOn.length, text.length());
        for (int place = 0; place < text.length(); place++) {
            for (int b = 0; b < 256; b++) {
                StringBuilder changed = new StringBuilder(text);
                changed.setCharAt(place, (char) b);
                int answer = Checks.coastOf(two(), changed.toString());
                boolean stops = answer == -1000 - place;
                String call = "\"" + text + "\" with " + b + " at " + place;
                Checks.due(call + " cannot go on", stops ? 1 : 0, canGoOn[place].indexOf(b) < 0 ? 1 : 0);
                Checks.yes(call + " is no FAULT ahead of it", answer >= 0 || answer <= -1000 - place);
            }
        }
    }

    private static void cellStatements() {
        Sentences.quoteTerms("\"c\" BASE \",\" WANTED: a CELL more;");
        eachByte("c1,2;", LETTERS, DIGITS, DIGITS + ",", DIGITS, DIGITS + ";");
        eachByte("c12,99;", LETTERS, DIGITS, DIGITS + ",", DIGITS + ",", DIGITS, DIGITS + ";", DIGITS + ";");
        HarbourMud x = fed("c1,0;c99,99;c10,9;");
        Checks.due("three CELLS", x.coast(), 3);
        int[] depths = {1, 99, 10};
        int[] lacks = {-1, 0, -1};
        for (int cell = 0; cell < 3; cell++) {
            Checks.due("depth(" + cell + ")", x.depth(cell), depths[cell]);
            Checks.due("lacks(" + cell + ")", x.lacks(cell), lacks[cell]);
            Checks.due("SETTLES as at first", x.set(cell, 0, 1), 50);
            Checks.due("STIRS as at first", x.set(cell, 1, 1), 20);
            Checks.due("PRICE as at first", x.set(cell, 2, 1), 1);
        }
    }

    private static void wayStatements() {
        Sentences.quoteTerms("\"w\" two digits (from; to, 8 the sea), a letter s or n (SPRING, NEAP), a letter S or M (STUFF),"
            + " hundredths: a WAY more;");
        eachByte("w10sS5;", LETTERS, DIGITS, DIGITS, "sn", "SM", DIGITS, DIGITS + ";");
        eachByte("w18nM40;", LETTERS, DIGITS, DIGITS, "sn", "SM", DIGITS, DIGITS + ";", DIGITS + ";");
        String[] told = {"sS", "sM", "nS", "nM"};
        for (int i = 0; i < 4; i++) {
            for (int to : new int[] {0, 8}) {
                HarbourMud x = Harbours.still(30, 0, 30, 0);
                Checks.due("w1" + to + told[i] + "100;", Checks.coastOf(x, "w1" + to + told[i] + "100;"), 1);
                x.put(1, 0, true, 10);
                x.put(1, 1, true, 20);
                x.moon(1, i >> 1 ^ 1);
                x.go(1);
                Checks.due("nothing on TIDES of the other KIND", x.tons(1, 0, true) + x.tons(1, 1, true), 30);
                x.moon(1, i >> 1);
                x.go(1);
                int much = (i & 1) == 0 ? 10 : 20;
                Checks.due("it went", x.tons(1, i & 1, true), 0);
                Checks.due("the other STUFF did not", x.tons(1, i & 1 ^ 1, true), 30 - much);
                Checks.due("to the sea", x.count(5), to == 8 ? much : 0);
                Checks.due("to the other CELL", x.tons(0, i & 1, true), to == 8 ? 0 : much);
            }
        }
        HarbourMud y = new HarbourMud();
        Checks.due("from 7 to 0, from 6 to 7", Checks.coastOf(y, "c9,9;".repeat(8) + "w70sS100;w67sS1;"), 10);
        Checks.due("two WAYS", y.count(1), 2);
    }

    private static void riverStatements() {
        Sentences.quoteTerms("\"r\" a digit, S or M, tons: a RIVER more;");
        eachByte("r0S5;", LETTERS, DIGITS, "SM", DIGITS, DIGITS + ";");
        eachByte("r1M999;", LETTERS, DIGITS, "SM", DIGITS, DIGITS + ";", DIGITS + ";", ";");
        HarbourMud x = two();
        Checks.due("two RIVERS", Checks.coastOf(x, "r0S1;r1M999;"), 2);
        x.go(1);
        Checks.due("SAND to 0", x.tons(0, 0, true), 1);
        Checks.due("MUD to 1", x.tons(1, 1, true), 999);
        Checks.due("nothing else", x.count(4), 1000);
        HarbourMud y = new HarbourMud();
        Checks.due("to the last CELL", Checks.coastOf(y, "c9,9;".repeat(8) + "r7S5;"), 9);
    }

    private static void moonStatements() {
        Sentences.quoteTerms("\"m\" letters s, n (1 to 28): THE MOON.");
        eachByte("ms;", LETTERS, "sn", "sn;");
        eachByte("mnsn;", LETTERS, "sn", "sn;", "sn;", "sn;");
        fault("m;", -1001);
        for (int n : new int[] {1, 27, 28}) {
            HarbourMud x = Harbours.still(1, 99);
            x.dredger(2, 1);
            String kinds = "s".repeat(n - 1) + "n";
            Checks.due(n + " KINDS", Checks.coastOf(x, "m" + kinds + ";"), 1);
            Checks.due("count(9)", x.count(9), n);
            Checks.same("they are these", Harbours.kindsOf(x, n + 1), kinds + (n == 1 ? "n" : "s"));
        }
        fault("m" + "s".repeat(29) + ";", -1029);
        fault("m" + "n".repeat(29), -1029);
        fault("m" + "n".repeat(28), -1029);
        HarbourMud y = Harbours.still(1, 99);
        y.dredger(2, 1);
        Checks.due("the last one is THE MOON", Checks.coastOf(y, "mnnnn;msn;"), 2);
        Checks.same("its KINDS", Harbours.kindsOf(y, 4), "snsn");
    }

    private static void numbers() {
        Sentences.quoteTerms("Numbers have 1 to 3 digits, no 0 ahead of another.");
        comes("c9,9;c99,99;r0S999;", 3);
        comes("c1,0;", 1);
        comes("c10,10;w08nM100;r0S100;", 3);
        fault("c,1;", -1001);
        fault("c1,;", -1003);
        fault("c1111,1;", -1004);
        fault("c1,1111;", -1006);
        fault("w01sM;", -1005);
        fault("w01sM0001;", -1006);
        fault("w01sM1000;", -1008);
        fault("r0S;", -1003);
        fault("r0S1000;", -1006);
        String[] ahead = {"00", "01", "09", "001", "010"};
        for (String number : ahead) {
            fault("c" + number + ",1;", -1002);
            fault("c1," + number + ";", -1004);
            fault("w01sM" + number + ";", -1006);
            fault("r0S" + number + ";", -1004);
        }
        fault("c0,0;", -2000);
        fault("c100,0;", -2000);
        fault("c-1,1;", -1001);
        fault("c+1,1;", -1001);
        fault("c 1,1;", -1001);
    }

    private static void firstByte() {
        Sentences.quoteTerms("FAULT: kind 1 the place of the first byte with which no COAST can go on");
        fault("x", -1000);
        fault("C1,1;", -1000);
        fault("W01sS1;", -1000);
        fault("c1,1;x", -1005);
        fault("c1;1;x", -1002);
        fault("c1,1;c1,1;w01sSx", -1015);
        fault("w01SS1;", -1003);
        fault("w01ss1;", -1004);
        fault("r0s1;", -1002);
        fault("mS;", -1001);
        fault("ms" + (char) 0, -1002);
        fault("ms" + (char) 255, -1002);
        fault((char) 0 + "ms;", -1000);
    }

    private static void atTheEnd() {
        Sentences.quoteTerms("(the end, if something lacks): -1000 less the place;");
        fault("", -1000);
        String whole = "c12,345;w01sM100;r0S789;msn;";
        for (int length = 1; length < whole.length(); length++) {
            String begun = whole.substring(0, length);
            if (!begun.endsWith(";")) {
                fault(begun, -1000 - length);
            }
        }
        fault("ms;c", -1004);
        fault("ms;w", -1004);
        fault("ms;r", -1004);
        fault("ms;m", -1004);
    }

    private static void outOfRange() {
        Sentences.quoteTerms("else kind 2 the place of the letter of the first STATEMENT that is not as it must be (a number out of range,");
        comes("c1,0;c99,99;", 2);
        fault("c0,5;", -2000);
        fault("c100,5;", -2000);
        fault("c999,5;", -2000);
        fault("c5,100;", -2000);
        fault("c5,999;", -2000);
        comes("w01sS1;w01nS100;w08nM99;", 3);
        fault("w01sS0;", -2000);
        fault("w01sS101;", -2000);
        fault("w01sS999;", -2000);
        comes("r0S1;r0S999;", 2);
        fault("r0S0;", -2000);
        fault("ms;r0S0;", -2003);
    }

    private static void cellsAheadOfIt() {
        Sentences.quoteTerms("a CELL that is not there ahead of it,");
        comes("w10sS1;w18sS1;r1S1;", 3);
        for (int cell : new int[] {2, 3, 7, 9}) {
            fault("w" + cell + "0sS1;", -2000);
            fault("w0" + cell + "sS1;", -2000);
            fault("r" + cell + "S1;", -2000);
        }
        fault("w80sS1;", -2000);
        fault("r8S1;", -2000);
        comes("c9,9;w20sS1;w02sS1;r2S1;", 4);
        fault("w20sS1;c9,9;", -2000);
        fault("c9,9;w30sS1;c9,9;", -2005);
        fault("r2S1;c9,9;", -2000);
        fault("ms;r2S1;c9,9;", -2003);
        Checks.due("no CELL at all", Checks.coastOf(new HarbourMud(), "r0S1;"), -2000);
        Checks.due("no CELL at all", Checks.coastOf(new HarbourMud(), "w08sS1;"), -2000);
    }

    private static void oneTwice() {
        Sentences.quoteTerms("one twice,");
        fault("w00sS1;", -2000);
        fault("w11nM1;", -2000);
        fault("w88sS1;", -2000);
        fault("ms;w11sS1;", -2003);
        comes("w01sS1;w01sS1;", 2);
    }

    private static void noRoom() {
        Sentences.quoteTerms("no room,");
        comes("c1,1;".repeat(6), 6);
        fault("c1,1;".repeat(7), -2030);
        Checks.due("eight CELLS", fed("c1,1;".repeat(8)).coast(), 8);
        Checks.due("nine", fed("c1,1;".repeat(9)).coast(), -2040);
        comes("r0S1;".repeat(8), 8);
        fault("r0S1;".repeat(9), -2040);
        comes("w10sS1;".repeat(13), 13);
        HarbourMud x = two();
        Checks.due("13 WAYS", Checks.coastOf(x, "w10sS1;".repeat(13)), 13);
        Checks.due("24 with one and 13", Checks.coastOf(x, "w10sS1;".repeat(10)), 10);
        Checks.due("one more", Checks.coastOf(x, "ms;w10sS1;"), -2003);
        HarbourMud y = two();
        Checks.coastOf(y, "w10sS1;".repeat(13));
        Checks.due("the 25th of 11", Checks.coastOf(y, "w10sS1;".repeat(11)), -2070);
        Checks.due("none of them came", y.count(1), 14);
    }

    private static void tooManyHundredths() {
        Sentences.quoteTerms("more than 100 hundredths): -2000 less the place.");
        comes("w01sM40;", 1);
        fault("w01sM41;", -2000);
        fault("w08sM41;", -2000);
        fault("w01sM40;w08sM1;", -2008);
        comes("w01sS100;w01nS100;w01nM100;w10sM100;", 4);
        comes("w10sS50;w18sS50;", 2);
        fault("w10sS50;w18sS51;", -2008);
        fault("w10sS100;ms;w18sS1;", -2012);
    }

    private static void firstOfSeveral() {
        Sentences.quoteTerms("the first STATEMENT that is not as it must be");
        fault("ms;c0,0;c0,0;", -2003);
        fault("c1,1;w01sS1;r9S1;w00sS1;", -2012);
        // kind 1 comes ahead of kind 2, wherever it stands
        fault("c0,0;x", -1005);
        fault("c0,0;c", -1006);
        fault("w00sS1;c1,01;", -1011);
    }

    private static void allOrNothing() {
        Sentences.quoteTerms("Without FAULT all of it comes, with one nothing.");
        HarbourMud x = two();
        Checks.due("all kinds of it", Checks.coastOf(x, "c9,8;w20sS7;r2M6;mnn;"), 4);
        Checks.due("CELLS", x.count(0), 3);
        Checks.due("WAYS", x.count(1), 2);
        Checks.due("RIVERS", x.count(2), 1);
        Checks.due("KINDS", x.count(9), 2);
        fault("c9,8;w20sS7;r2M6;mnn;c0,0;", -2021);
        fault("c9,8;w20sS7;r2M6;mnn;x", -1021);
        HarbourMud y = two();
        Checks.coastOf(y, "c9,8;w20sS7;r2M6;mnn;c0,0;");
        Checks.due("a CELL behind it is the third", y.cell(5, 4), 2);
        Checks.due("a WAY behind it is the second", y.way(2, 0, 0, 100), 1);
        Checks.due("a RIVER behind it is the first", y.river(2, 0, 1), 0);
        Checks.due("depth(2)", y.depth(2), 5);
    }

    private static void coasts() {
        Sentences.quote(3, "The TEXT, which has none then, is a COAST: how many STATEMENTS;");
        HarbourMud x = new HarbourMud();
        Checks.due("one", Checks.coastOf(x, "ms;"), 1);
        Checks.due("the TEXT has none", x.count(7), 0);
        Checks.due("so the next is empty", x.coast(), -1000);
        Checks.due("one in pieces", x.feed(2, 'c' | '1' << 8), 2);
        Checks.due("one in pieces", x.feed(3, ',' | '0' << 8 | ';' << 16), 5);
        Checks.due("one in pieces", x.coast(), 1);
        Checks.due("it is added to what there is", Checks.coastOf(x, "c2,0;"), 1);
        Checks.due("two CELLS", x.count(0), 2);
        Sentences.quote(3, "the FAULT (nothing is counted).");
        for (String text : new String[] {"x", "c0,0;", "c1,1"}) {
            HarbourMud y = Harbours.one();
            Checks.yes("a FAULT", Checks.coastOf(y, text) <= -1000);
            Checks.due("the TEXT has none", y.count(7), 0);
            for (int what = 11; what <= 16; what++) {
                Checks.due("count(" + what + ")", y.count(what), 0);
            }
            Checks.due("the next is no FAULT", Checks.coastOf(y, "ms;"), 1);
        }
        Checks.due("the full harbour's 96 bytes", Harbours.full().coast(), 32);
        HarbourMud z = Harbours.some();
        Checks.due("something lacks behind 7 bytes", z.coast(), -1007);
        Checks.due("the ROW stays", z.count(8), 3);
    }
}
