/**
 * A land of houses, each of which is numbered by how many others it sees.
 *
 * The face checks what it is given in the order in which the document tells refusals and faults;
 * the classes inside are only asked for cells, houses, trees and rows that are there.
 */
public final class SeenNumbers {
    public static final int UNKNOWN = -1, OUTSIDE = -2, STATE = -3, FULL = -4, NONE = -9;
    public static final long LOST = Long.MIN_VALUE;

    private static final int NO_FAULT = 0, NULL = 1, CAST = 2, INDEX = 3, SIZE = 4;
    private static final int FAULT_BASE = -10, TEXT_BASE = -100;

    private static final int SHEETS = 4, LANES = 3, BYTES = 0, SHORTS = 1, MOST_IN_ROW = 100;
    private static final int MOST_HIGH = 5, MOST_WIDE = 6, MOST_CELLS = MOST_HIGH * MOST_WIDE;
    private static final int MOST_HOUSES = 8, MOST_TREES = 8, MOST_READINGS = 8;
    private static final int LAST_YEAR = 30, MOST_FOG = 9, MOST_WALL = 9, MOST_FLOORS = 9, MOST_TALL = 9;
    private static final int MOST_NUMBER = 7, MOST_NUMBER_OF_NEW = 8;

    private static final int HOUSE = 0, CHIMNEY = 1, TOWER = 2, KINDS = 3;
    private static final int TREE = 3, NOTHING = -1;
    private static final int HOUSE_BASE = 10, TREE_BASE = 20;

    private final Sheet[] sheets;
    private final Text text;
    private final Land plot;
    private final Sight sight;
    private final Finder finder;
    private final Readings readings;
    private int traceLeft;
    private int latestFault;

    public SeenNumbers() {
        sheets = new Sheet[SHEETS];
        for (int k = 0; k < SHEETS; k++) {
            sheets[k] = new Sheet();
        }
        text = new Text();
        plot = new Land();
        sight = new Sight(plot);
        finder = new Finder(plot, sight);
        readings = new Readings(plot, sight);
    }

    // ---- 1 the land

    public int land(int sheet, int lane, int i, int n) {
        latestFault = NO_FAULT;
        if (!isSheet(sheet)) {
            return UNKNOWN;
        }
        if (!isWithin(lane, 0, LANES - 1)) {
            return OUTSIDE;
        }
        Sheet row = sheets[sheet];
        int wrong = row.faultAs(lane);
        if (wrong == NO_FAULT && n < 0) {
            wrong = SIZE;
        }
        if (wrong == NO_FAULT && !row.holdsRun(i, n)) {
            wrong = INDEX;
        }
        if (wrong != NO_FAULT) {
            return answerFault(wrong);
        }
        if (!text.isTaken(row, i, n)) {
            return TEXT_BASE - text.place;
        }
        plot.makeAnew(text);
        readings.count = 0;
        return plot.cells;
    }

    public int ofCell(int c, int what) {
        if (!plot.hasCell(c)) {
            return UNKNOWN;
        }
        switch (what) {
            case 0: return plot.ground[c];
            case 1: return plot.topOf(c);
            case 2: return plot.thing[c];
            default: return OUTSIDE;
        }
    }

    public int ofHouse(int h, int what) {
        if (!plot.hasHouse(h)) {
            return UNKNOWN;
        }
        House house = plot.houses[h];
        switch (what) {
            case 0: return house.kind;
            case 1: return house.place;
            case 2: return house.tallAtFirst;
            case 3: return house.tallWith(house.floorsOn, plot.law);
            case 4: return house.floorsOn;
            default: return OUTSIDE;
        }
    }

    public int ofTree(int t, int what) {
        if (!plot.hasTree(t)) {
            return UNKNOWN;
        }
        switch (what) {
            case 0: return plot.trees[t].place;
            case 1: return plot.trees[t].tallAtFirst;
            case 2: return plot.treeTall(t, plot.year, plot.felled);
            case 3: return isIn(t, plot.felled) ? 1 : 0;
            default: return OUTSIDE;
        }
    }

    public int times(int year, int fog, int law) {
        if (!isWithin(year, 0, LAST_YEAR) || !isWithin(fog, 1, MOST_FOG) || !isWithin(law, 0, 1)) {
            return OUTSIDE;
        }
        if (!plot.isThere()) {
            return STATE;
        }
        if (plot.year == year && plot.fog == fog && plot.law == law) {
            return 0;
        }
        plot.year = year;
        plot.fog = fog;
        plot.law = law;
        return 1;
    }

    public int wall(int c, int v) {
        if (!plot.hasCell(c)) {
            return UNKNOWN;
        }
        if (!isWithin(v, 0, MOST_WALL)) {
            return OUTSIDE;
        }
        if (!plot.hasNothing(c)) {
            return STATE;
        }
        int was = plot.walls[c];
        plot.walls[c] = v;
        return was;
    }

    public int floors(int h, int v) {
        if (!plot.hasHouse(h)) {
            return UNKNOWN;
        }
        if (!isWithin(v, 0, MOST_FLOORS)) {
            return OUTSIDE;
        }
        int were = plot.houses[h].floorsOn;
        plot.houses[h].floorsOn = v;
        return were;
    }

    public int fell(int t, boolean is) {
        if (!plot.hasTree(t)) {
            return UNKNOWN;
        }
        if (isIn(t, plot.felled) == is) {
            return 0;
        }
        plot.felled ^= 1 << t;
        return 1;
    }

    // ---- 2 numbers

    public int see(int h, int other) {
        if (!plot.hasHouse(h) || !plot.hasHouse(other) || h == other) {
            return UNKNOWN;
        }
        sight.lookNow();
        return sight.isClear(plot.houses[h].place, plot.houses[other].place) ? 1 : 0;
    }

    public int number(int h) {
        if (!plot.hasHouse(h)) {
            return UNKNOWN;
        }
        sight.lookNow();
        return sight.numberOf(h);
    }

    public int having(int n) {
        if (!isWithin(n, 0, MOST_NUMBER)) {
            return OUTSIDE;
        }
        if (!plot.isThere()) {
            return STATE;
        }
        sight.countAll();
        return sight.housesWith(n);
    }

    public int alone() {
        if (!plot.isThere()) {
            return STATE;
        }
        sight.countAll();
        int set = 0;
        for (int n = 0; n <= MOST_NUMBER; n++) {
            int same = sight.housesWith(n);
            if (Integer.bitCount(same) == 1) {
                set |= same;
            }
        }
        return set;
    }

    public int letter(int n, int seenBy) {
        if (!isWithin(n, 0, MOST_NUMBER) || !isWithin(seenBy, 0, MOST_NUMBER)) {
            return OUTSIDE;
        }
        if (!plot.isThere()) {
            return STATE;
        }
        sight.countAll();
        return sight.seenAmong(sight.housesWith(n), sight.housesWith(seenBy));
    }

    public long mean(int which) {
        if (!isWithin(which, 0, 1) || !plot.isThere()) {
            return LOST;
        }
        if (plot.houseCount == 0) {
            return which;
        }
        sight.countAll();
        int all = sight.sumOfNumbers();
        int part = greatestCommon(all, plot.houseCount);
        return (which == 0 ? all : plot.houseCount) / part;
    }

    // ---- 3 walls, floors, new ones

    public int walled(int h, int n) {
        int refused = refusedFor(h, n);
        return refused != 0 ? refused : finder.lowestWall(h, n);
    }

    public int raised(int h, int n) {
        int refused = refusedFor(h, n);
        return refused != 0 ? refused : finder.leastFloors(h, n);
    }

    public int felling(int h, int n) {
        int refused = refusedFor(h, n);
        return refused != 0 ? refused : finder.fewestFelled(h, n);
    }

    public int fresh(int c, int tall, int what) {
        if (!plot.hasCell(c)) {
            return UNKNOWN;
        }
        if (!isWithin(tall, 1, MOST_TALL) || !isWithin(what, 0, 1)) {
            return OUTSIDE;
        }
        if (!plot.canTakeNew(c)) {
            return STATE;
        }
        return what == 0 ? finder.numberOfNew(c, tall) : finder.changedByNew(c, tall);
    }

    public long free(int tall, int n) {
        if (!isWithin(tall, 1, MOST_TALL) || !isWithin(n, 0, MOST_NUMBER_OF_NEW) || !plot.isThere()) {
            return LOST;
        }
        return finder.cellsForNew(tall, n);
    }

    // ---- 4 what was

    public int change(int h) {
        return plot.hasHouse(h) ? finder.yearOfChange(h) : UNKNOWN;
    }

    public int reading(int h, int year, int n) {
        if (!plot.hasHouse(h)) {
            return UNKNOWN;
        }
        if (!isWithin(year, 0, LAST_YEAR) || !isWithin(n, 0, MOST_NUMBER)) {
            return OUTSIDE;
        }
        return readings.isFull() ? FULL : readings.keep(h, year, n);
    }

    public int back(int k) {
        if (!isWithin(k, 0, readings.count)) {
            return OUTSIDE;
        }
        readings.count -= k;
        return readings.count;
    }

    public int fogs() {
        return plot.isThere() ? readings.possibleFogs() : STATE;
    }

    public int stood(int what) {
        if (!isWithin(what, 0, 1)) {
            return OUTSIDE;
        }
        if (!plot.isThere()) {
            return STATE;
        }
        return what == 0 ? readings.howManyStood() : readings.firstThatStood();
    }

    // ---- 5 sheets, parts

    public int sheet(int k, int lane, int n) {
        latestFault = NO_FAULT;
        if (!isSheet(k)) {
            return UNKNOWN;
        }
        if (!isWithin(lane, 0, LANES - 1) || n > MOST_IN_ROW) {
            return OUTSIDE;
        }
        if (n < 0) {
            return answerFault(SIZE);
        }
        sheets[k].makeRow(lane, n);
        return 1;
    }

    public int lose(int k) {
        if (!isSheet(k)) {
            return UNKNOWN;
        }
        if (!sheets[k].hasRow()) {
            return 0;
        }
        sheets[k].dropRow();
        return 1;
    }

    public int put(int k, int i, int v) {
        latestFault = NO_FAULT;
        if (!isSheet(k)) {
            return UNKNOWN;
        }
        Sheet row = sheets[k];
        if (!row.hasRow()) {
            return answerFault(NULL);
        }
        if (!row.holds(i)) {
            return answerFault(INDEX);
        }
        row.write(i, v);
        return 1;
    }

    public long cell(int k, int i, int lane) {
        latestFault = NO_FAULT;
        if (!isSheet(k) || !isWithin(lane, 0, LANES - 1)) {
            return LOST;
        }
        Sheet row = sheets[k];
        latestFault = row.faultAs(lane);
        if (latestFault == NO_FAULT && !row.holds(i)) {
            latestFault = INDEX;
        }
        return latestFault == NO_FAULT ? row.cells[i] : LOST;
    }

    public int copy(int k, int i, int other, int j, int n) {
        latestFault = NO_FAULT;
        if (!isSheet(k) || !isSheet(other)) {
            return UNKNOWN;
        }
        Sheet from = sheets[k];
        Sheet to = sheets[other];
        if (!from.hasRow() || !to.hasRow()) {
            return answerFault(NULL);
        }
        if (from.lane != to.lane) {
            return answerFault(CAST);
        }
        if (!from.holdsRun(i, n) || !to.holdsRun(j, n)) {
            return answerFault(INDEX);
        }
        System.arraycopy(from.cells, i, to.cells, j, n);
        return n;
    }

    public int tell(int h) {
        if (!plot.hasHouse(h)) {
            return UNKNOWN;
        }
        House house = plot.houses[h];
        switch (house.kind) {
            case TOWER: return towerTells(house);
            case CHIMNEY: return chimneyTells(house);
            default: return houseTells(house);
        }
    }

    public int rent(int h) {
        if (!plot.hasHouse(h)) {
            return UNKNOWN;
        }
        if (plot.houses[h].kind == TOWER) {
            leaveTrace(5);
            return 70;
        }
        leaveTrace(4);
        return h;
    }

    public int as(int h, int kind) {
        latestFault = NO_FAULT;
        if (!plot.hasHouse(h)) {
            return UNKNOWN;
        }
        if (!isWithin(kind, 0, KINDS - 1)) {
            return OUTSIDE;
        }
        return plot.houses[h].isA(kind) ? 1 : answerFault(CAST);
    }

    public int trace() {
        return traceLeft;
    }

    public int fault() {
        return latestFault;
    }

    public int many(int what) {
        switch (what) {
            case 0: return plot.cells;
            case 1: return plot.wide;
            case 2: return plot.houseCount;
            case 3: return plot.treeCount;
            case 4: return readings.count;
            case 5: return plot.year;
            case 6: return plot.fog;
            default: return OUTSIDE;
        }
    }

    // ---- what the face asks of itself

    private static boolean isWithin(int v, int least, int most) {
        return least <= v && v <= most;
    }

    private static boolean isSheet(int k) {
        return isWithin(k, 0, SHEETS - 1);
    }

    private static boolean isIn(int k, int set) {
        return (set >> k & 1) == 1;
    }

    /** Counts down, so that its end is seen and it never answers 0: its answers are divisors. */
    private static int greatestCommon(int a, int b) {
        for (int d = Math.max(a, b); d > 1; d--) {
            if (a % d == 0 && b % d == 0) {
                return d;
            }
        }
        return 1;
    }

    private int answerFault(int which) {
        latestFault = which;
        return FAULT_BASE - which;
    }

    /** The refusal that walled, raised and felling share; 0 for none. */
    private int refusedFor(int h, int n) {
        if (!plot.hasHouse(h)) {
            return UNKNOWN;
        }
        return isWithin(n, 0, MOST_NUMBER) ? 0 : OUTSIDE;
    }

    private void leaveTrace(int body) {
        traceLeft = 31 * traceLeft + body;
    }

    private int houseTells(House house) {
        leaveTrace(1);
        return house.tallAtFirst;
    }

    private int chimneyTells(House house) {
        leaveTrace(2);
        return houseTells(house) + 100;
    }

    private int towerTells(House house) {
        leaveTrace(3);
        int asChimney = chimneyTells(house);
        return asChimney + houseTells(house);
    }

    /** A SHEET. Its cells are made once, whatever rows it gets: rows that are lost would fill the room. */
    private static final class Sheet {
        final int[] cells = new int[MOST_IN_ROW];
        int lane;
        int size = NOTHING;

        boolean hasRow() {
            return size != NOTHING;
        }

        void makeRow(int newLane, int n) {
            lane = newLane;
            size = n;
            for (int i = 0; i < n; i++) {
                cells[i] = 0;
            }
        }

        void dropRow() {
            size = NOTHING;
        }

        /** Nothing is no CAST: NULL can be asked for first. */
        int faultAs(int asLane) {
            if (!hasRow()) {
                return NULL;
            }
            return lane == asLane ? NO_FAULT : CAST;
        }

        boolean holds(int i) {
            return 0 <= i && i < size;
        }

        boolean holdsRun(int i, int n) {
            return i >= 0 && n >= 0 && n <= size - i;
        }

        void write(int i, int v) {
            switch (lane) {
                case BYTES: cells[i] = (byte) v; break;
                case SHORTS: cells[i] = (short) v; break;
                default: cells[i] = v; break;
            }
        }
    }

    /**
     * A TEXT while it is read. It is kept apart from the land, as a text with a fault changes nothing.
     * Each taker goes on behind what it takes and else stays, so that place is the FIRST FAULT.
     */
    private static final class Text {
        final int[] ground = new int[MOST_CELLS];
        final int[] kinds = new int[MOST_CELLS];
        final int[] tall = new int[MOST_CELLS];
        int high;
        int wide;
        int place;
        private int houses;
        private int trees;
        private Sheet row;
        private int start;
        private int length;

        boolean isTaken(Sheet ofSheet, int from, int n) {
            row = ofSheet;
            start = from;
            length = n;
            place = 0;
            houses = 0;
            trees = 0;
            return takeHead() && takeRows() && place == length;
        }

        private boolean takeHead() {
            if (!take('n')) {
                return false;
            }
            high = takeDigit(1, MOST_HIGH);
            if (high == NOTHING) {
                return false;
            }
            wide = takeDigit(2, MOST_WIDE);
            return wide != NOTHING;
        }

        private boolean takeRows() {
            for (int r = 0; r < high; r++) {
                if (!take(';')) {
                    return false;
                }
                for (int c = 0; c < wide; c++) {
                    if (!takeCell(r * wide + c)) {
                        return false;
                    }
                }
            }
            return true;
        }

        private boolean takeCell(int c) {
            ground[c] = takeDigit(0, 9);
            if (ground[c] == NOTHING) {
                return false;
            }
            kinds[c] = NOTHING;
            if (take('.')) {
                return true;
            }
            kinds[c] = takeLetter();
            if (kinds[c] == NOTHING) {
                return false;
            }
            tall[c] = takeDigit(1, MOST_TALL);
            return tall[c] != NOTHING;
        }

        private int takeLetter() {
            if (trees < MOST_TREES && take('t')) {
                trees++;
                return TREE;
            }
            int kind = houses < MOST_HOUSES ? takeKind() : NOTHING;
            if (kind != NOTHING) {
                houses++;
            }
            return kind;
        }

        private int takeKind() {
            if (take('h')) {
                return HOUSE;
            }
            if (take('c')) {
                return CHIMNEY;
            }
            return take('r') ? TOWER : NOTHING;
        }

        private boolean take(int code) {
            if (place >= length || row.cells[start + place] != code) {
                return false;
            }
            place++;
            return true;
        }

        private int takeDigit(int least, int most) {
            if (place >= length) {
                return NOTHING;
            }
            int code = row.cells[start + place];
            if (!isWithin(code, '0' + least, '0' + most)) {
                return NOTHING;
            }
            place++;
            return code - '0';
        }
    }

    /** A HOUSE of any kind; the next land uses it again. */
    private static final class House {
        int kind;
        int place;
        int tallAtFirst;
        int floorsOn;

        boolean isA(int otherKind) {
            return kind >= otherKind;
        }

        int tallWith(int floorsNow, int law) {
            int tall = tallAtFirst + floorsNow;
            if (isA(CHIMNEY)) {
                tall += law;
            }
            return isA(TOWER) ? tall + 3 : tall;
        }
    }

    /** A TREE; whether it is FELLED is in the land's set, as what-ifs ask for other sets. */
    private static final class Tree {
        int place;
        int tallAtFirst;
    }

    /** The LAND as it is. It has no CELLS until a text is taken. */
    private static final class Land {
        final int[] ground = new int[MOST_CELLS];
        final int[] walls = new int[MOST_CELLS];
        final int[] thing = new int[MOST_CELLS];
        final House[] houses = new House[MOST_HOUSES];
        final Tree[] trees = new Tree[MOST_TREES];
        int wide;
        int cells;
        int houseCount;
        int treeCount;
        int felled;
        int year;
        int fog;
        int law;

        Land() {
            for (int h = 0; h < MOST_HOUSES; h++) {
                houses[h] = new House();
            }
            for (int t = 0; t < MOST_TREES; t++) {
                trees[t] = new Tree();
            }
        }

        boolean isThere() {
            return cells > 0;
        }

        boolean hasCell(int c) {
            return isWithin(c, 0, cells - 1);
        }

        boolean hasHouse(int h) {
            return isWithin(h, 0, houseCount - 1);
        }

        boolean hasTree(int t) {
            return isWithin(t, 0, treeCount - 1);
        }

        boolean hasNothing(int c) {
            return thing[c] == 0;
        }

        boolean canTakeNew(int c) {
            return hasNothing(c) && walls[c] == 0;
        }

        void makeAnew(Text text) {
            wide = text.wide;
            cells = text.high * text.wide;
            houseCount = 0;
            treeCount = 0;
            felled = 0;
            year = 0;
            fog = MOST_FOG;
            law = 0;
            for (int c = 0; c < cells; c++) {
                ground[c] = text.ground[c];
                walls[c] = 0;
                thing[c] = settle(c, text.kinds[c], text.tall[c]);
            }
        }

        private int settle(int c, int kind, int tall) {
            if (kind == NOTHING) {
                return 0;
            }
            if (kind == TREE) {
                Tree tree = trees[treeCount];
                tree.place = c;
                tree.tallAtFirst = tall;
                return TREE_BASE + treeCount++;
            }
            House house = houses[houseCount];
            house.kind = kind;
            house.place = c;
            house.tallAtFirst = tall;
            house.floorsOn = 0;
            return HOUSE_BASE + houseCount++;
        }

        int treeTall(int t, int inYear, int felledThen) {
            return isIn(t, felledThen) ? 0 : trees[t].tallAtFirst + inYear / 2;
        }

        int topOf(int c) {
            return ground[c] + tallOn(c);
        }

        private int tallOn(int c) {
            int what = thing[c];
            if (what >= TREE_BASE) {
                return treeTall(what - TREE_BASE, year, felled);
            }
            if (what >= HOUSE_BASE) {
                House house = houses[what - HOUSE_BASE];
                return house.tallWith(house.floorsOn, law);
            }
            return walls[c];
        }
    }

    /**
     * Tops and a fog to look by: those of the land, or what they would be. What-ifs change these and
     * never the land, so that nothing has to be put back there.
     */
    private static final class Sight {
        final int[] tops = new int[MOST_CELLS];
        final int[] numbers = new int[MOST_HOUSES];
        int fog;
        private final Land land;

        Sight(Land land) {
            this.land = land;
        }

        void lookNow() {
            fog = land.fog;
            for (int c = 0; c < land.cells; c++) {
                tops[c] = land.topOf(c);
            }
        }

        /** Years and fellings change trees alone: all other tops stay. */
        void lookWithTrees(int year, int felled) {
            for (int t = 0; t < land.treeCount; t++) {
                int c = land.trees[t].place;
                tops[c] = land.ground[c] + land.treeTall(t, year, felled);
            }
        }

        /** Heights are compared times the steps: a quotient would be cut, the line is not. */
        boolean isClear(int a, int b) {
            int wide = land.wide;
            if (wide < 1) {
                return false;
            }
            int down = Math.abs(b / wide - a / wide);
            int along = Math.abs(b % wide - a % wide);
            if (Math.max(down, along) > fog) {
                return false;
            }
            int steps = greatestCommon(down, along);
            int stride = (b - a) / steps;
            for (int m = 1; m < steps; m++) {
                if (tops[a + m * stride] * steps >= tops[a] * steps + m * (tops[b] - tops[a])) {
                    return false;
                }
            }
            return true;
        }

        /** How many houses are seen from a cell, but for the one that may stand on it. */
        int numberFrom(int c) {
            int n = 0;
            for (int h = 0; h < land.houseCount; h++) {
                int place = land.houses[h].place;
                if (place != c && isClear(c, place)) {
                    n++;
                }
            }
            return n;
        }

        int numberOf(int h) {
            return numberFrom(land.houses[h].place);
        }

        /** What numberFrom were, if another cell (or the same) had another top. */
        int numberIf(int from, int c, int top) {
            int was = tops[c];
            tops[c] = top;
            int n = numberFrom(from);
            tops[c] = was;
            return n;
        }

        void countAll() {
            lookNow();
            for (int h = 0; h < land.houseCount; h++) {
                numbers[h] = numberOf(h);
            }
        }

        int sumOfNumbers() {
            int sum = 0;
            for (int h = 0; h < land.houseCount; h++) {
                sum += numbers[h];
            }
            return sum;
        }

        int housesWith(int n) {
            int set = 0;
            for (int h = 0; h < land.houseCount; h++) {
                if (numbers[h] == n) {
                    set |= 1 << h;
                }
            }
            return set;
        }

        /** Those of a set of houses that one of the lookers sees. */
        int seenAmong(int set, int lookers) {
            int seen = 0;
            for (int h = 0; h < land.houseCount; h++) {
                if (isIn(h, set) && isSeenByOne(h, lookers)) {
                    seen |= 1 << h;
                }
            }
            return seen;
        }

        private boolean isSeenByOne(int h, int lookers) {
            for (int o = 0; o < land.houseCount; o++) {
                if (o != h && isIn(o, lookers) && isClear(land.houses[o].place, land.houses[h].place)) {
                    return true;
                }
            }
            return false;
        }
    }

    /** What would have to be for a number, and what would come of a new house or of years. */
    private static final class Finder {
        private final Land land;
        private final Sight sight;

        Finder(Land land, Sight sight) {
            this.land = land;
            this.sight = sight;
        }

        int lowestWall(int h, int n) {
            sight.lookNow();
            int place = land.houses[h].place;
            for (int v = 1; v <= MOST_WALL; v++) {
                for (int c = 0; c < land.cells; c++) {
                    if (land.hasNothing(c) && sight.numberIf(place, c, land.ground[c] + v) == n) {
                        return 100 * v + c;
                    }
                }
            }
            return NONE;
        }

        int leastFloors(int h, int n) {
            sight.lookNow();
            House house = land.houses[h];
            for (int v = 0; v <= MOST_FLOORS; v++) {
                int top = land.ground[house.place] + house.tallWith(v, land.law);
                if (sight.numberIf(house.place, house.place, top) == n) {
                    return v;
                }
            }
            return NONE;
        }

        int fewestFelled(int h, int n) {
            sight.lookNow();
            int sets = 1 << land.treeCount;
            int best = NONE;
            for (int set = 0; set < sets; set++) {
                boolean isFewer = best == NONE || Integer.bitCount(set) < Integer.bitCount(best);
                if (isFewer && (set & land.felled) == 0 && numberFelling(h, set) == n) {
                    best = set;
                }
            }
            return best;
        }

        private int numberFelling(int h, int more) {
            sight.lookWithTrees(land.year, land.felled | more);
            return sight.numberOf(h);
        }

        int numberOfNew(int c, int tall) {
            sight.lookNow();
            return sight.numberIf(c, c, land.ground[c] + tall);
        }

        int changedByNew(int c, int tall) {
            sight.countAll();
            sight.tops[c] = land.ground[c] + tall;
            int set = 0;
            for (int h = 0; h < land.houseCount; h++) {
                int then = sight.numberOf(h);
                if (sight.isClear(land.houses[h].place, c)) {
                    then++;
                }
                if (then != sight.numbers[h]) {
                    set |= 1 << h;
                }
            }
            return set;
        }

        long cellsForNew(int tall, int n) {
            sight.lookNow();
            long set = 0;
            for (int c = 0; c < land.cells; c++) {
                if (land.canTakeNew(c) && sight.numberIf(c, c, land.ground[c] + tall) == n) {
                    set |= 1L << c;
                }
            }
            return set;
        }

        int yearOfChange(int h) {
            sight.lookNow();
            int now = sight.numberOf(h);
            for (int y = land.year + 1; y <= LAST_YEAR; y++) {
                sight.lookWithTrees(y, land.felled);
                if (sight.numberOf(h) != now) {
                    return y;
                }
            }
            return NONE;
        }
    }

    /** What was read, and what it leaves possible. */
    private static final class Readings {
        int count;
        private final int[] houses = new int[MOST_READINGS];
        private final int[] years = new int[MOST_READINGS];
        private final int[] numbers = new int[MOST_READINGS];
        private final Land land;
        private final Sight sight;

        Readings(Land land, Sight sight) {
            this.land = land;
            this.sight = sight;
        }

        boolean isFull() {
            return count >= MOST_READINGS;
        }

        int keep(int h, int year, int n) {
            houses[count] = h;
            years[count] = year;
            numbers[count] = n;
            return count++;
        }

        int possibleFogs() {
            sight.lookNow();
            int set = 0;
            for (int f = 1; f <= MOST_FOG; f++) {
                sight.fog = f;
                if (allAreSo(land.felled)) {
                    set |= 1 << f;
                }
            }
            return set;
        }

        int howManyStood() {
            sight.lookNow();
            int sets = 1 << land.treeCount;
            int many = 0;
            for (int set = 0; set < sets; set++) {
                if (allAreSo(sets - 1 - set)) {
                    many++;
                }
            }
            return many;
        }

        int firstThatStood() {
            sight.lookNow();
            int sets = 1 << land.treeCount;
            for (int set = 0; set < sets; set++) {
                if (allAreSo(sets - 1 - set)) {
                    return set;
                }
            }
            return NONE;
        }

        private boolean allAreSo(int felled) {
            for (int k = 0; k < count; k++) {
                sight.lookWithTrees(years[k], felled);
                if (sight.numberOf(houses[k]) != numbers[k]) {
                    return false;
                }
            }
            return true;
        }
    }
}
