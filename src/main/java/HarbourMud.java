/**
 * A harbour whose mud comes back. The document ../shared/DOC.md says what each call answers;
 * the words in capitals in the comments here are the document's.
 *
 * <p>Every row is made once, in the constructor: what is only thought of (RUNS, a COAST that is
 * being read) is worked out in a second harbour that is used again and again.
 *
 * <p>Where a row is gone through, the counter is held against the row's length too, though there are never
 * more CELLS, WAYS, .. than their rows have places: each index is seen to be inside where it is used.
 */
public final class HarbourMud {
    private static final int NOBODY = -1;
    private static final int OTHER = -2;
    private static final int STATE = -3;
    private static final int BELOW = -4;
    private static final int ROOM = -6;
    private static final int NONE = -9;

    /** Some answers may be below 0 by themselves: their REFUSALS lie where no such answer can. */
    private static final int FAR_BELOW = -1000000000;
    private static final long FAR_BELOW_COSTS = -4000000000000000000L;
    private static final long ABOVE_ALL_COSTS = 4000000000000000000L;

    private static final int CELLS_MOST = 8;
    private static final int STUFFS = 2;
    private static final int SAND = 0;
    private static final int MUD = 1;
    private static final int SPRING = 0;
    private static final int NEAP = 1;
    private static final int SEA = 8;
    private static final int WAYS_MOST = 24;
    private static final int RIVERS_MOST = 8;
    private static final int MOON_MOST = 28;
    private static final int RUN_MOST = 200;
    private static final int TEXT_MOST = 96;
    private static final int ROW_MOST = 28;
    private static final int PUT_MOST = 9999;
    private static final int PLACE_MOST = 1000000;

    private static final int NEAR = 0;
    private static final int EBB = 1;
    private static final int TRAP = 2;
    private static final int DEEP = 3;
    private static final int TOLD = 4;

    /** In place of a CELL from which the dredger takes: by its PLAN, or from nowhere. */
    private static final int BY_PLAN = -1;
    private static final int NOWHERE = 9;

    private final Harbour now = new Harbour();
    private final Harbour mind = new Harbour();
    private final Harbour kept = new Harbour();
    private boolean hasImage = false;
    private final CoastText text = new CoastText();
    private final int[] rowBytes = new int[ROW_MOST];
    private int rowLength = 0;
    private final int[] refusals = new int[7];

    public HarbourMud() {
    }

    public int feed(int n, long bytes) {
        if (n < 1) {
            return refuse(BELOW);
        }
        if (n > 8 || text.length + n > TEXT_MOST) {
            return refuse(ROOM);
        }
        for (int i = 0; i < n; i++) {
            text.append((int) (bytes >>> (8 * i)) & 255);
        }
        return text.length;
    }

    public int coast() {
        mind.become(now);
        int answer = text.readInto(mind);
        text.length = 0;
        if (answer >= 0) {
            now.become(mind);
        }
        return answer;
    }

    public int cell(int base, int wanted) {
        return refuseIfBelow0(now.cells.add(base, wanted));
    }

    public int set(int cell, int what, int v) {
        if (!now.cells.has(cell)) {
            return refuse(NOBODY);
        }
        if (what < 0 || what > 3) {
            return refuse(OTHER);
        }
        if (v < 0) {
            return refuse(BELOW);
        }
        if (v > (what <= 1 ? 100 : 99)) {
            return refuse(ROOM);
        }
        int[] values = now.cells.valuesOf(what);
        int was = values[cell];
        values[cell] = v;
        return was;
    }

    public int way(int from, int to, int told, int hundredths) {
        if (told % 10 != 0) {
            return refuse(NOBODY);
        }
        return refuseIfBelow0(now.addWay(from, to, told / 100, told / 10 % 10, hundredths));
    }

    public int shut(int way, boolean is) {
        if (!now.ways.has(way)) {
            return refuse(NOBODY);
        }
        if (now.ways.isShut(way) == is) {
            return 0;
        }
        now.ways.turn(way);
        return 1;
    }

    public int river(int cell, int stuff, int tons) {
        return refuseIfBelow0(now.addRiver(cell, stuff, tons));
    }

    public int moon(int n, int kinds) {
        if (n < 1) {
            return refuse(BELOW);
        }
        if (n > MOON_MOST) {
            return refuse(ROOM);
        }
        int was = now.moonLength;
        now.changeMoon(n, kinds);
        return was;
    }

    public int put(int cell, int stuff, boolean loose, int tons) {
        if (!now.cells.has(cell) || !isStuff(stuff)) {
            return refuse(NOBODY);
        }
        if (tons < -PUT_MOST) {
            return refuse(BELOW);
        }
        if (tons > PUT_MOST) {
            return refuse(ROOM);
        }
        int[] heaps = now.cells.heapsOf(loose);
        int heap = heapOf(cell, stuff);
        int then = Math.max(0, heaps[heap] + tons);
        if (then > PLACE_MOST) {
            return refuse(ROOM);
        }
        heaps[heap] = then;
        return then;
    }

    public int tons(int cell, int stuff, boolean loose) {
        if (!now.cells.has(cell) || !isStuff(stuff)) {
            return refuse(NOBODY);
        }
        return now.cells.heapsOf(loose)[heapOf(cell, stuff)];
    }

    public int depth(int cell) {
        if (!now.cells.has(cell)) {
            return refuse(NOBODY);
        }
        return now.cells.depthOf(cell);
    }

    public int lacks(int cell) {
        if (!now.cells.has(cell)) {
            return FAR_BELOW + refuse(NOBODY);
        }
        return now.cells.lackOf(cell);
    }

    public int dredger(int what, int v) {
        if (what < Dredger.CAP || what > Dredger.FEE) {
            return refuse(OTHER);
        }
        if (what == Dredger.DROP || what == Dredger.TOLD_CELL) {
            boolean isThere = now.cells.has(v) || what == Dredger.DROP && v == SEA;
            return isThere ? now.dredger.change(what, v) : refuse(NOBODY);
        }
        if (v < 0) {
            return refuse(BELOW);
        }
        if (v > Dredger.greatest(what)) {
            return refuse(ROOM);
        }
        return now.dredger.change(what, v);
    }

    public int takes() {
        if (now.cells.number == 0) {
            return refuse(STATE);
        }
        int from = now.plannedCell(now.kindNow());
        return from == now.dredger.drop ? NONE : from;
    }

    public int go(int n) {
        int why = whyNoRun(n);
        if (why < 0) {
            return refuse(why);
        }
        now.goOn(n, BY_PLAN);
        return now.tides;
    }

    public long cost(int n) {
        int why = whyNoRun(n);
        if (why < 0) {
            return FAR_BELOW_COSTS + refuse(why);
        }
        mind.become(now);
        return mind.runCosts(n, ABOVE_ALL_COSTS);
    }

    public int holds(int n) {
        int why = whyNoRun(n);
        if (why < 0) {
            return refuse(why);
        }
        mind.become(now);
        return mind.firstLack(n, BY_PLAN);
    }

    public int alone(int n) {
        int why = whyNoRun(n);
        if (why < 0) {
            return refuse(why);
        }
        mind.become(now);
        return mind.firstLack(n, NOWHERE);
    }

    public int back(int cell, int stuff, int tons, int set, int n) {
        if (!now.cells.has(cell) || !isStuff(stuff) || !now.cells.hasAll(set)) {
            return FAR_BELOW + refuse(NOBODY);
        }
        if (tons < 1 || n < 1) {
            return FAR_BELOW + refuse(BELOW);
        }
        if (tons > PUT_MOST || n > RUN_MOST) {
            return FAR_BELOW + refuse(ROOM);
        }
        mind.become(now);
        mind.goOn(n, NOWHERE);
        int without = mind.cells.tonsInSet(set, stuff);
        mind.become(now);
        mind.drop(cell, stuff, tons);
        mind.goOn(n, NOWHERE);
        return mind.cells.tonsInSet(set, stuff) - without;
    }

    public int bestDrop(int n) {
        int why = whyNoRun(n);
        if (why < 0) {
            return refuse(why);
        }
        long least = ABOVE_ALL_COSTS;
        int best = NONE;
        for (int drop = 0; drop <= SEA; drop++) {
            if (drop == SEA || now.cells.has(drop)) {
                mind.become(now);
                mind.dredger.drop = drop;
                long costs = mind.runCosts(n, least);
                if (costs < least) {
                    least = costs;
                    best = drop;
                }
            }
        }
        return best;
    }

    public int bestPlan(int n) {
        int why = whyNoRun(n);
        if (why < 0) {
            return refuse(why);
        }
        long least = ABOVE_ALL_COSTS;
        int best = NONE;
        for (int plan = NEAR; plan <= TOLD; plan++) {
            mind.become(now);
            mind.dredger.plan = plan;
            long costs = mind.runCosts(n, least);
            if (costs < least) {
                least = costs;
                best = plan;
            }
        }
        return best;
    }

    public int leastCap(int n) {
        int why = whyNoRun(n);
        if (why < 0) {
            return refuse(why);
        }
        for (int cap = 0; cap <= 950; cap += 50) {
            mind.become(now);
            mind.dredger.cap = cap;
            if (mind.firstLack(n, BY_PLAN) == NONE) {
                return cap;
            }
        }
        return NONE;
    }

    public int wall(int n) {
        int why = whyNoRun(n);
        if (why < 0) {
            return refuse(why);
        }
        mind.become(now);
        long least = mind.runCosts(n, ABOVE_ALL_COSTS);
        int best = NONE;
        for (int way = 0; way < now.ways.number; way++) {
            if (!now.ways.isShut(way)) {
                mind.become(now);
                mind.ways.turn(way);
                long costs = mind.runCosts(n, least);
                if (costs < least) {
                    least = costs;
                    best = way;
                }
            }
        }
        return best;
    }

    public int share(int river, int n) {
        if (!now.rivers.has(river)) {
            return FAR_BELOW + refuse(NOBODY);
        }
        if (n < 1) {
            return FAR_BELOW + refuse(BELOW);
        }
        if (n > RUN_MOST) {
            return FAR_BELOW + refuse(ROOM);
        }
        mind.become(now);
        mind.goOn(n, BY_PLAN);
        int with = mind.cells.settledInAll();
        mind.become(now);
        mind.rivers.tonsATide[river] = 0;
        mind.goOn(n, BY_PLAN);
        return with - mind.cells.settledInAll();
    }

    public int row(int v) {
        if (v < 0) {
            return refuse(BELOW);
        }
        if (v > NOWHERE || rowLength < 0 || rowLength >= ROW_MOST) {
            return refuse(ROOM);
        }
        rowBytes[rowLength] = v;
        rowLength++;
        return rowLength;
    }

    public int judge(int what) {
        if (what < 0 || what > 2) {
            return refuse(OTHER);
        }
        if (!rowIsOfCells()) {
            return refuse(NOBODY);
        }
        if (now.cells.number == 0) {
            return refuse(STATE);
        }
        mind.become(now);
        int firstEmpty = NONE;
        long costs = 0;
        for (int i = 0; i < rowLength && i < ROW_MOST; i++) {
            mind.goBy(rowBytes[i]);
            costs += mind.tideCosts();
            if (firstEmpty == NONE && rowBytes[i] != NOWHERE && mind.takenLast == 0) {
                firstEmpty = i;
            }
        }
        rowLength = 0;
        if (what == 0) {
            return firstEmpty;
        }
        return what == 1 ? (int) costs : mind.cells.feetLacked();
    }

    public int image() {
        kept.become(now);
        hasImage = true;
        return kept.cells.number;
    }

    public int restore() {
        if (!hasImage) {
            return refuse(STATE);
        }
        now.become(kept);
        return now.cells.number;
    }

    public int count(int what) {
        if (what >= 11 && what <= 16) {
            return refusals[what - 10];
        }
        switch (what) {
            case 0: return now.cells.number;
            case 1: return now.ways.number;
            case 2: return now.rivers.number;
            case 3: return now.tides;
            case 4: return now.cells.tonsInAll();
            case 5: return now.gone;
            case 6: return now.taken;
            case 7: return text.length;
            case 8: return rowLength;
            case 9: return now.moonLength;
            default: return NONE;
        }
    }

    private int refuse(int number) {
        int place = -number;
        if (place >= 0 && place < refusals.length) {
            refusals[place]++;
        }
        return number;
    }

    private int refuseIfBelow0(int answer) {
        return answer < 0 ? refuse(answer) : answer;
    }

    /** The REFUSAL of a RUN of n TIDES; 0 if it can be. */
    private int whyNoRun(int n) {
        if (n < 1) {
            return BELOW;
        }
        if (n > RUN_MOST) {
            return ROOM;
        }
        return now.cells.number == 0 ? STATE : 0;
    }

    private boolean rowIsOfCells() {
        for (int i = 0; i < rowLength && i < ROW_MOST; i++) {
            if (rowBytes[i] != NOWHERE && !now.cells.has(rowBytes[i])) {
                return false;
            }
        }
        return true;
    }

    private static boolean isStuff(int stuff) {
        return stuff == SAND || stuff == MUD;
    }

    private static boolean isKind(int kind) {
        return kind == SPRING || kind == NEAP;
    }

    /**
     * Where a CELL's STUFF stands in the rows of tons: SAND of all CELLS, then MUD of all. The masks keep it
     * inside the rows, whatever is asked.
     */
    private static int heapOf(int cell, int stuff) {
        return (stuff & STUFFS - 1) * CELLS_MOST + (cell & CELLS_MOST - 1);
    }

    private static int depthAbove(int settledTons, int base) {
        return Math.max(0, base - settledTons / 100);
    }

    /** Hundredths of tons, cut; rivers can bring more tons than an int could hold a hundredfold. */
    private static int partOf(int tons, int hundredths) {
        return (int) ((long) tons * hundredths / 100);
    }

    /** The CELLS, with what lies in them; where there is no CELL yet, the rows of tons hold 0. */
    private static final class Cells {
        int number = 0;
        final int[] base = new int[CELLS_MOST];
        final int[] wanted = new int[CELLS_MOST];
        final int[] settles = new int[CELLS_MOST];
        final int[] stirs = new int[CELLS_MOST];
        final int[] price = new int[CELLS_MOST];
        final int[] loose = new int[CELLS_MOST * STUFFS];
        final int[] settled = new int[CELLS_MOST * STUFFS];

        void become(Cells other) {
            number = other.number;
            System.arraycopy(other.base, 0, base, 0, CELLS_MOST);
            System.arraycopy(other.wanted, 0, wanted, 0, CELLS_MOST);
            System.arraycopy(other.settles, 0, settles, 0, CELLS_MOST);
            System.arraycopy(other.stirs, 0, stirs, 0, CELLS_MOST);
            System.arraycopy(other.price, 0, price, 0, CELLS_MOST);
            System.arraycopy(other.loose, 0, loose, 0, CELLS_MOST * STUFFS);
            System.arraycopy(other.settled, 0, settled, 0, CELLS_MOST * STUFFS);
        }

        boolean has(int cell) {
            return cell >= 0 && cell < number && cell < CELLS_MOST;
        }

        boolean hasAll(int set) {
            return set >= 0 && set < 1 << number;
        }

        /** The number of a new CELL, or a REFUSAL. */
        int add(int itsBase, int itsWanted) {
            if (itsBase < 1 || itsWanted < 0) {
                return BELOW;
            }
            if (itsBase > 99 || itsWanted > 99 || number < 0 || number >= CELLS_MOST) {
                return ROOM;
            }
            int cell = number;
            number++;
            base[cell] = itsBase;
            wanted[cell] = itsWanted;
            settles[cell] = 50;
            stirs[cell] = 20;
            price[cell] = 1;
            return cell;
        }

        int[] valuesOf(int what) {
            switch (what) {
                case 0: return settles;
                case 1: return stirs;
                case 2: return price;
                default: return wanted;
            }
        }

        int[] heapsOf(boolean areLoose) {
            return areLoose ? loose : settled;
        }

        int settledIn(int cell) {
            if (cell < 0 || cell >= CELLS_MOST) {
                return 0;
            }
            return settled[cell] + settled[CELLS_MOST + cell];
        }

        int depthOf(int cell) {
            if (cell < 0 || cell >= CELLS_MOST) {
                return 0;
            }
            return depthAbove(settledIn(cell), base[cell]);
        }

        int lackOf(int cell) {
            if (cell < 0 || cell >= CELLS_MOST) {
                return 0;
            }
            return wanted[cell] - depthAbove(settledIn(cell), base[cell]);
        }

        boolean someLack() {
            for (int cell = 0; cell < number; cell++) {
                if (lackOf(cell) > 0) {
                    return true;
                }
            }
            return false;
        }

        int feetLacked() {
            int feet = 0;
            for (int cell = 0; cell < number; cell++) {
                feet += Math.max(0, lackOf(cell));
            }
            return feet;
        }

        long priceOfLacks() {
            long sum = 0;
            for (int cell = 0; cell < number && cell < CELLS_MOST; cell++) {
                sum += (long) Math.max(0, lackOf(cell)) * price[cell];
            }
            return sum;
        }

        int settledInAll() {
            int sum = 0;
            for (int cell = 0; cell < number; cell++) {
                sum += settledIn(cell);
            }
            return sum;
        }

        int tonsInSet(int set, int stuff) {
            int sum = 0;
            for (int cell = 0; cell < number; cell++) {
                if ((set >> cell & 1) == 1 && isStuff(stuff)) {
                    int heap = heapOf(cell, stuff);
                    sum += loose[heap] + settled[heap];
                }
            }
            return sum;
        }

        int tonsInAll() {
            int all = (1 << CELLS_MOST) - 1;
            return tonsInSet(all, SAND) + tonsInSet(all, MUD);
        }

        void stir() {
            for (int cell = 0; cell < number && cell < CELLS_MOST; cell++) {
                for (int stuff = 0; stuff < STUFFS; stuff++) {
                    int heap = heapOf(cell, stuff);
                    int part = partOf(settled[heap], stirs[cell]);
                    settled[heap] -= part;
                    loose[heap] += part;
                }
            }
        }

        void settle() {
            for (int cell = 0; cell < number && cell < CELLS_MOST; cell++) {
                for (int stuff = 0; stuff < STUFFS; stuff++) {
                    int heap = heapOf(cell, stuff);
                    int part = partOf(loose[heap], settles[cell]);
                    loose[heap] -= part;
                    settled[heap] += part;
                }
            }
        }

        /** The CELL that LACKS most, and above 0; the one that is passed over never. */
        int nearest(int passedOver) {
            int most = 0;
            int best = NONE;
            for (int cell = 0; cell < number; cell++) {
                if (cell != passedOver && lackOf(cell) > most) {
                    most = lackOf(cell);
                    best = cell;
                }
            }
            return best;
        }

        /** The CELL with most SETTLED of those that LACK above -2; the one that is passed over never. */
        int fullest(int passedOver) {
            int most = -1;
            int best = NONE;
            for (int cell = 0; cell < number; cell++) {
                if (cell != passedOver && lackOf(cell) > -2 && settledIn(cell) > most) {
                    most = settledIn(cell);
                    best = cell;
                }
            }
            return best;
        }
    }

    /** The WAYS. */
    private static final class Ways {
        int number = 0;
        final int[] from = new int[WAYS_MOST];
        final int[] to = new int[WAYS_MOST];
        final int[] kind = new int[WAYS_MOST];
        final int[] stuff = new int[WAYS_MOST];
        final int[] hundredths = new int[WAYS_MOST];
        private int shutBits = 0;

        void become(Ways other) {
            number = other.number;
            System.arraycopy(other.from, 0, from, 0, WAYS_MOST);
            System.arraycopy(other.to, 0, to, 0, WAYS_MOST);
            System.arraycopy(other.kind, 0, kind, 0, WAYS_MOST);
            System.arraycopy(other.stuff, 0, stuff, 0, WAYS_MOST);
            System.arraycopy(other.hundredths, 0, hundredths, 0, WAYS_MOST);
            shutBits = other.shutBits;
        }

        boolean has(int way) {
            return way >= 0 && way < number && way < WAYS_MOST;
        }

        boolean isFull() {
            return number < 0 || number >= WAYS_MOST;
        }

        boolean isShut(int way) {
            return (shutBits >> way & 1) == 1;
        }

        /** SHUT becomes open, open SHUT. */
        void turn(int way) {
            shutBits ^= 1 << way;
        }

        /** SHUT ones too: they may be opened again. */
        int together(int cell, int itsKind, int itsStuff) {
            int sum = 0;
            for (int way = 0; way < number && way < WAYS_MOST; way++) {
                if (from[way] == cell && kind[way] == itsKind && stuff[way] == itsStuff) {
                    sum += hundredths[way];
                }
            }
            return sum;
        }

        int add(int itsFrom, int itsTo, int itsKind, int itsStuff, int itsHundredths) {
            if (isFull()) {
                return ROOM;
            }
            int way = number;
            number++;
            from[way] = itsFrom;
            to[way] = itsTo;
            kind[way] = itsKind;
            stuff[way] = itsStuff;
            hundredths[way] = itsHundredths;
            return way;
        }
    }

    /** The RIVERS. */
    private static final class Rivers {
        int number = 0;
        final int[] cell = new int[RIVERS_MOST];
        final int[] stuff = new int[RIVERS_MOST];
        final int[] tonsATide = new int[RIVERS_MOST];

        void become(Rivers other) {
            number = other.number;
            System.arraycopy(other.cell, 0, cell, 0, RIVERS_MOST);
            System.arraycopy(other.stuff, 0, stuff, 0, RIVERS_MOST);
            System.arraycopy(other.tonsATide, 0, tonsATide, 0, RIVERS_MOST);
        }

        boolean has(int river) {
            return river >= 0 && river < number && river < RIVERS_MOST;
        }

        boolean isFull() {
            return number < 0 || number >= RIVERS_MOST;
        }

        int add(int itsCell, int itsStuff, int tons) {
            if (isFull()) {
                return ROOM;
            }
            int river = number;
            number++;
            cell[river] = itsCell;
            stuff[river] = itsStuff;
            tonsATide[river] = tons;
            return river;
        }
    }

    /** How the dredger is told to work; what it is told stands under the document's number for it. */
    private static final class Dredger {
        static final int CAP = 0;
        static final int DROP = 1;
        static final int PLAN = 2;
        static final int TOLD_CELL = 3;
        static final int FEE = 4;

        int cap = 0;
        int drop = SEA;
        int plan = NEAR;
        int toldCell = 0;
        int fee = 1;

        void become(Dredger other) {
            cap = other.cap;
            drop = other.drop;
            plan = other.plan;
            toldCell = other.toldCell;
            fee = other.fee;
        }

        /** Of CAP, PLAN and FEE; the others are places. */
        static int greatest(int what) {
            switch (what) {
                case CAP: return 999;
                case PLAN: return TOLD;
                default: return 99;
            }
        }

        /** What it was. */
        int change(int what, int v) {
            int was;
            switch (what) {
                case CAP:
                    was = cap;
                    cap = v;
                    return was;
                case DROP:
                    was = drop;
                    drop = v;
                    return was;
                case PLAN:
                    was = plan;
                    plan = v;
                    return was;
                case TOLD_CELL:
                    was = toldCell;
                    toldCell = v;
                    return was;
                default:
                    was = fee;
                    fee = v;
                    return was;
            }
        }
    }

    /** All that THE IMAGE keeps, and how a TIDE changes it. */
    private static final class Harbour {
        final Cells cells = new Cells();
        final Ways ways = new Ways();
        final Rivers rivers = new Rivers();
        final Dredger dredger = new Dredger();
        int moonLength = 1;
        int moonKinds = SPRING;
        int tides = 0;
        int gone = 0;
        int taken = 0;
        int takenLast = 0;
        int takenToSeaLast = 0;
        private final int[] looseBefore = new int[CELLS_MOST * STUFFS];

        void become(Harbour other) {
            cells.become(other.cells);
            ways.become(other.ways);
            rivers.become(other.rivers);
            dredger.become(other.dredger);
            moonLength = other.moonLength;
            moonKinds = other.moonKinds;
            tides = other.tides;
            gone = other.gone;
            taken = other.taken;
        }

        /** The number of a new WAY, or a REFUSAL. */
        int addWay(int from, int to, int kind, int stuff, int hundredths) {
            if (!cells.has(from) || !(cells.has(to) || to == SEA) || from == to) {
                return NOBODY;
            }
            if (!isKind(kind) || !isStuff(stuff)) {
                return NOBODY;
            }
            if (hundredths < 1) {
                return BELOW;
            }
            if (hundredths > 100 || ways.isFull()) {
                return ROOM;
            }
            if (ways.together(from, kind, stuff) + hundredths > 100) {
                return STATE;
            }
            return ways.add(from, to, kind, stuff, hundredths);
        }

        /** The number of a new RIVER, or a REFUSAL. */
        int addRiver(int cell, int stuff, int tons) {
            if (!cells.has(cell) || !isStuff(stuff)) {
                return NOBODY;
            }
            if (tons < 1) {
                return BELOW;
            }
            if (tons > 999 || rivers.isFull()) {
                return ROOM;
            }
            return rivers.add(cell, stuff, tons);
        }

        void changeMoon(int length, int kinds) {
            moonLength = length;
            moonKinds = kinds;
        }

        int kindNow() {
            return moonLength < 1 ? SPRING : moonKinds >> (tides % moonLength) & 1;
        }

        /** One TIDE; whence: the CELL from which the dredger takes, NOWHERE, or BY_PLAN. */
        void goBy(int whence) {
            int kind = kindNow();
            if (kind == SPRING) {
                cells.stir();
            }
            carry(kind);
            bring();
            cells.settle();
            dredge(whence == BY_PLAN ? plannedCell(kind) : whence);
            tides++;
        }

        void goOn(int n, int whence) {
            for (int i = 0; i < n; i++) {
                goBy(whence);
            }
        }

        /** All at once: what each WAY takes is a part of what lay there before any of them took. */
        private void carry(int kind) {
            System.arraycopy(cells.loose, 0, looseBefore, 0, looseBefore.length);
            for (int way = 0; way < ways.number && way < WAYS_MOST; way++) {
                if (ways.kind[way] == kind && !ways.isShut(way)) {
                    int stuff = ways.stuff[way];
                    int heap = heapOf(ways.from[way], stuff);
                    int part = partOf(looseBefore[heap], ways.hundredths[way]);
                    cells.loose[heap] -= part;
                    drop(ways.to[way], stuff, part);
                }
            }
        }

        private void bring() {
            for (int river = 0; river < rivers.number && river < RIVERS_MOST; river++) {
                cells.loose[heapOf(rivers.cell[river], rivers.stuff[river])] += rivers.tonsATide[river];
            }
        }

        /** LOOSE to a CELL, or out to sea. */
        void drop(int cell, int stuff, int tons) {
            if (cells.has(cell)) {
                cells.loose[heapOf(cell, stuff)] += tons;
            } else {
                gone += tons;
            }
        }

        /** The CELL from which the PLAN takes on a TIDE of the KIND; NONE if there is none. */
        int plannedCell(int kind) {
            switch (dredger.plan) {
                case NEAR: return cells.nearest(dredger.drop);
                case EBB: return kind == NEAP ? cells.nearest(dredger.drop) : NONE;
                case TRAP: return dredger.toldCell;
                case DEEP: return cells.fullest(dredger.drop);
                default: return kind == NEAP ? cells.nearest(dredger.drop) : dredger.toldCell;
            }
        }

        private void dredge(int from) {
            takenLast = 0;
            takenToSeaLast = 0;
            if (cells.has(from) && from != dredger.drop) {
                dredgeStuff(from, MUD);
                dredgeStuff(from, SAND);
                taken += takenLast;
            }
        }

        private void dredgeStuff(int from, int stuff) {
            int heap = heapOf(from, stuff);
            int part = Math.min(dredger.cap - takenLast, cells.settled[heap]);
            cells.settled[heap] -= part;
            takenLast += part;
            if (!cells.has(dredger.drop)) {
                takenToSeaLast += part;
            }
            drop(dredger.drop, stuff, part);
        }

        /** COST of the TIDE that went by last. */
        long tideCosts() {
            return cells.priceOfLacks() + (long) takenLast * dredger.fee + 2L * takenToSeaLast;
        }

        /** COST of n TIDES that go by; they stop where it is enough, since it never becomes less. */
        long runCosts(int n, long enough) {
            long sum = 0;
            for (int i = 0; i < n && sum < enough; i++) {
                goBy(BY_PLAN);
                sum += tideCosts();
            }
            return sum;
        }

        /** The first of n TIDES behind which some CELL LACKS; they stop there. */
        int firstLack(int n, int whence) {
            for (int i = 0; i < n; i++) {
                goBy(whence);
                if (cells.someLack()) {
                    return i;
                }
            }
            return NONE;
        }
    }

    /** The TEXT, and the reading of it as a COAST; what the last STATEMENT told stands in fields. */
    private static final class CoastText {
        int length = 0;
        private final int[] bytes = new int[TEXT_MOST];
        private int at = 0;
        private int letter = 0;
        private int digit = 0;
        private int digitBefore = 0;
        private int kind = SPRING;
        private int stuff = SAND;
        private int number = 0;
        private int numberBefore = 0;
        private int moonLength = 0;
        private int moonKinds = 0;

        void append(int value) {
            if (length >= 0 && length < TEXT_MOST) {
                bytes[length] = value;
                length++;
            }
        }

        /** How many STATEMENTS came to the draft, or the FAULT (the draft is worth nothing then). */
        int readInto(Harbour draft) {
            int statements = 0;
            at = 0;
            do {
                if (!readStatement()) {
                    return -1000 - at;
                }
                statements++;
            } while (at < length && statements < TEXT_MOST);
            at = 0;
            for (int i = 0; i < statements; i++) {
                int place = at;
                if (!readStatement() || !giveTo(draft)) {
                    return -2000 - place;
                }
            }
            return statements;
        }

        private boolean giveTo(Harbour draft) {
            switch (letter) {
                case 'c':
                    return draft.cells.add(numberBefore, number) >= 0;
                case 'w':
                    return draft.addWay(digitBefore, digit, kind, stuff, number) >= 0;
                case 'r':
                    return draft.addRiver(digit, stuff, number) >= 0;
                default:
                    draft.changeMoon(moonLength, moonKinds);
                    return true;
            }
        }

        /** If not, it stands at the first byte with which nothing can go on; so do all that read. */
        private boolean readStatement() {
            letter = byteHere();
            switch (letter) {
                case 'c':
                    at++;
                    return readNumber() && readSign(',') && readNumber() && readSign(';');
                case 'w':
                    at++;
                    return readDigit() && readDigit() && readKind() && readStuff() && readNumber() && readSign(';');
                case 'r':
                    at++;
                    return readDigit() && readStuff() && readNumber() && readSign(';');
                case 'm':
                    at++;
                    return readMoon() && readSign(';');
                default:
                    return false;
            }
        }

        private int byteHere() {
            return at >= 0 && at < length && at < TEXT_MOST ? bytes[at] : NONE;
        }

        private boolean digitIsHere() {
            return byteHere() >= '0' && byteHere() <= '9';
        }

        private boolean readSign(char sign) {
            if (byteHere() != sign) {
                return false;
            }
            at++;
            return true;
        }

        private boolean readDigit() {
            if (!digitIsHere()) {
                return false;
            }
            digitBefore = digit;
            digit = byteHere() - '0';
            at++;
            return true;
        }

        private boolean readNumber() {
            if (!digitIsHere()) {
                return false;
            }
            int value = 0;
            boolean isZero = false;
            for (int i = 0; i < 3 && !isZero && digitIsHere(); i++) {
                value = value * 10 + byteHere() - '0';
                isZero = value == 0;
                at++;
            }
            numberBefore = number;
            number = value;
            return true;
        }

        private boolean readKind() {
            kind = byteHere() == 'n' ? NEAP : SPRING;
            return readSign(kind == NEAP ? 'n' : 's');
        }

        private boolean readStuff() {
            stuff = byteHere() == 'M' ? MUD : SAND;
            return readSign(stuff == MUD ? 'M' : 'S');
        }

        private boolean readMoon() {
            moonLength = 0;
            moonKinds = 0;
            for (int i = 0; i < MOON_MOST && readKind(); i++) {
                moonKinds |= kind << i;
                moonLength++;
            }
            return moonLength > 0;
        }
    }
}
