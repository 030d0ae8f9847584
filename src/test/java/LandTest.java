/** Promises 1 to 9 and 36: a new object, land by a text, what is on it, times, walls, floors, fellings. */
final class LandTest {
    private static final String MIXED = "n25;0h30.1t20.0c4;2h12r10.0t30.";
    private static final String EIGHT_HOUSES = "n33;0h10h10h1;0h10c10h1;0h10r1";
    private static final String EIGHT_TREES = "n33;0t10t10t1;0t10t10t1;0t10t1";

    private LandTest() {
    }

    public static void main(String[] args) {
        newObject();
        landIsTaken();
        firstFaults();
        everyPlaceOfAText();
        landIsRefused();
        aTextThatFailsChangesNothing();
        aTextThatIsTakenMakesAllAnew();
        cells();
        houses();
        trees();
        timesBecomeSo();
        walls();
        floorsOfHouses();
        fellings();
        Due.end(LandTest.class);
    }

    private static void newObject() {
        SeenNumbers x = new SeenNumbers();
        for (int what = 0; what <= 6; what++) {
            Due.due("new: many(" + what + ")", x.many(what), 0);
        }
        Due.due("new: many(7)", x.many(7), SeenNumbers.OUTSIDE);
        Due.due("new: many(-1)", x.many(-1), SeenNumbers.OUTSIDE);
        for (int k = 0; k < 4; k++) {
            Due.due("new: lose(" + k + ")", x.lose(k), 0);
        }
        Due.due("new: ofCell(0, 0)", x.ofCell(0, 0), SeenNumbers.UNKNOWN);
        Due.due("new: ofHouse(0, 0)", x.ofHouse(0, 0), SeenNumbers.UNKNOWN);
        Due.due("new: ofTree(0, 0)", x.ofTree(0, 0), SeenNumbers.UNKNOWN);
        Due.due("new: wall(0, 1)", x.wall(0, 1), SeenNumbers.UNKNOWN);
        Due.due("new: floors(0, 1)", x.floors(0, 1), SeenNumbers.UNKNOWN);
        Due.due("new: fell(0, true)", x.fell(0, true), SeenNumbers.UNKNOWN);
        Due.due("new: times(0, 9, 0)", x.times(0, 9, 0), SeenNumbers.STATE);
        Due.due("new: times(31, 9, 0)", x.times(31, 9, 0), SeenNumbers.OUTSIDE);
        Due.due("new: trace()", x.trace(), 0);
        Due.due("new: fault()", x.fault(), 0);
    }

    private static void landIsTaken() {
        for (int lane = 0; lane < 3; lane++) {
            SeenNumbers x = new SeenNumbers();
            x.sheet(3, lane, 40);
            for (int i = 0; i < MIXED.length(); i++) {
                x.put(3, 5 + i, MIXED.charAt(i));
            }
            Due.due("land of lane " + lane, x.land(3, lane, 5, MIXED.length()), 10);
            Due.due("its fault", x.fault(), 0);
            Due.due("its CELLS", x.many(0), 10);
            Due.due("its WIDE", x.many(1), 5);
            Due.due("its HOUSES", x.many(2), 4);
            Due.due("its TREES", x.many(3), 2);
            Due.due("its READINGS", x.many(4), 0);
            Due.due("its YEAR", x.many(5), 0);
            Due.due("its FOG", x.many(6), 9);
        }
        Due.due("the least land", Due.take(new SeenNumbers(), "n12;0.9."), 2);
        StringBuilder most = new StringBuilder("n56");
        for (int c = 0; c < 30; c++) {
            most.append(c % 6 == 0 ? ";" : "").append(c % 10).append(c < 8 ? "h9" : c < 16 ? "t1" : ".");
        }
        Due.due("the greatest land", Due.take(new SeenNumbers(), most.toString()), 30);
        Due.due("eight houses", Due.take(new SeenNumbers(), EIGHT_HOUSES + "0."), 9);
        Due.due("eight trees", Due.take(new SeenNumbers(), EIGHT_TREES + "0h1"), 9);
        Due.due("eight trees, a house", Due.take(new SeenNumbers(), EIGHT_TREES + "0r9"), 9);
        Due.due("eight houses, a tree", Due.take(new SeenNumbers(), EIGHT_HOUSES + "0t9"), 9);
    }

    private static void fault(String text, int place) {
        Due.due("the FIRST FAULT of " + text, Due.take(new SeenNumbers(), text), -100 - place);
    }

    private static void firstFaults() {
        fault("", 0);
        fault("N12;0.0.", 0);
        fault("n02;", 1);
        fault("n62;", 1);
        fault("n11;", 2);
        fault("n17;", 2);
        fault("n12:", 3);
        fault("n12;.", 4);
        fault("n12;/.", 4);
        fault("n12;:.", 4);
        fault("n12;0x", 5);
        fault("n12;0n", 5);
        fault("n12;00", 5);
        fault("n12;0h0", 6);
        fault("n12;0t:", 6);
        fault("n12;0t.", 6);
        fault("n12;0.0h", 8);
        fault("n12;0.0t", 8);
        fault("n12;0.0.;", 8);
        fault("n12;0.0.0", 8);
        fault("n12;0.;0.", 6);
        fault("n22;0.0.0.0.", 8);
        fault(EIGHT_HOUSES + "0h1", 31);
        fault(EIGHT_HOUSES + "0c1", 31);
        fault(EIGHT_HOUSES + "0r1", 31);
        fault(EIGHT_HOUSES + "0r", 31);
        fault(EIGHT_HOUSES + "0", 31);
        fault(EIGHT_TREES + "0t1", 31);
        fault("n12;" + (char) 256 + ".0.", 4);
        fault("n12;0" + (char) 302 + "0.", 5);
    }

    private static void everyPlaceOfAText() {
        for (int p = 0; p < MIXED.length(); p++) {
            fault(MIXED.substring(0, p), p);
            fault(MIXED.substring(0, p) + "?" + MIXED.substring(p + 1), p);
        }
        fault(MIXED + ".", MIXED.length());
        SeenNumbers x = Due.landOf(MIXED);
        for (int n = 0; n < MIXED.length(); n++) {
            Due.due("the first " + n + " codes of a whole text", x.land(0, 2, 0, n), -100 - n);
        }
        String soon = "n12;0.";
        x.sheet(1, 2, 100);
        for (int i = 0; i < soon.length(); i++) {
            x.put(1, 94 + i, soon.charAt(i));
        }
        Due.due("too soon at the end of the longest row", x.land(1, 2, 94, 6), -106);
    }

    private static void landIsRefused() {
        SeenNumbers x = new SeenNumbers();
        x.sheet(0, 0, 8);
        Due.due("no such SHEET, no such LANE", x.land(4, 3, -1, -1), SeenNumbers.UNKNOWN);
        Due.due("SHEET -1", x.land(-1, 0, 0, 1), SeenNumbers.UNKNOWN);
        Due.due("LANE 3", x.land(0, 3, -1, -1), SeenNumbers.OUTSIDE);
        Due.due("LANE -1 of nothing", x.land(1, -1, -1, -1), SeenNumbers.OUTSIDE);
        Due.due("nothing is no CAST", x.land(1, 2, -1, -1), -11);
        Due.due("fault() of it", x.fault(), 1);
        Due.due("another LANE ahead of SIZE", x.land(0, 1, -1, -1), -12);
        Due.due("fault() of it", x.fault(), 2);
        Due.due("SIZE ahead of INDEX", x.land(0, 0, -1, -1), -14);
        Due.due("fault() of it", x.fault(), 4);
        Due.due("least SIZE", x.land(0, 0, 0, Integer.MIN_VALUE), -14);
        Due.due("i below 0", x.land(0, 0, -1, 1), -13);
        Due.due("fault() of it", x.fault(), 3);
        Due.due("i below 0, none taken", x.land(0, 0, -1, 0), -13);
        Due.due("i beyond, none taken", x.land(0, 0, 9, 0), -13);
        Due.due("n beyond", x.land(0, 0, 0, 9), -13);
        Due.due("n beyond from i on", x.land(0, 0, 7, 2), -13);
        Due.due("n far beyond", x.land(0, 0, 1, Integer.MAX_VALUE), -13);
        Due.due("i far beyond", x.land(0, 0, Integer.MAX_VALUE, Integer.MAX_VALUE), -13);
        Due.due("none taken at the end", x.land(0, 0, 8, 0), -100);
        Due.due("fault() of a FIRST FAULT", x.fault(), 0);
        x.land(1, 0, 0, 0);
        Due.due("fault() then", x.fault(), 1);
        x.land(4, 0, 0, 0);
        Due.due("fault() of a refusal", x.fault(), 0);
        x.land(1, 0, 0, 0);
        x.land(0, 3, 0, 0);
        Due.due("fault() of a refused LANE", x.fault(), 0);
        Due.due("no land of all that", x.many(0), 0);
    }

    private static void aTextThatFailsChangesNothing() {
        SeenNumbers x = Due.landOf(MIXED);
        x.times(7, 3, 1);
        x.wall(1, 4);
        x.floors(2, 6);
        x.fell(1, true);
        x.reading(0, 1, 2);
        Due.due("a text with its fault at the end", Due.take(x, "n33;9r90.0.;0.0.0.;0.0.0.9"), -125);
        Due.due("WIDE stays", x.many(1), 5);
        Due.due("READINGS stay", x.many(4), 1);
        Due.due("YEAR stays", x.many(5), 7);
        Due.due("FOG stays", x.many(6), 3);
        Due.due("LAW stays", x.ofHouse(1, 3), 5);
        Due.due("the WALL stays", x.ofCell(1, 1), 4);
        Due.due("FLOORS stay", x.ofHouse(2, 4), 6);
        Due.due("the felled TREE stays so", x.ofTree(1, 3), 1);
        Due.due("GROUND stays", x.ofCell(0, 0), 0);
    }

    private static void aTextThatIsTakenMakesAllAnew() {
        SeenNumbers x = Due.landOf(MIXED);
        x.times(7, 3, 1);
        x.wall(1, 4);
        x.floors(2, 6);
        x.fell(1, true);
        x.reading(0, 1, 2);
        x.tell(0);
        Due.due("the same again", Due.take(x, MIXED), 10);
        Due.due("no READINGS", x.many(4), 0);
        Due.due("YEAR 0", x.many(5), 0);
        Due.due("FOG 9", x.many(6), 9);
        Due.due("LAW 0", x.ofHouse(1, 3), 4);
        Due.due("no WALL", x.ofCell(1, 1), 0);
        Due.due("no FLOORS", x.ofHouse(2, 4), 0);
        Due.due("no TREE felled", x.ofTree(1, 3), 0);
        Due.due("TRACE stays", x.trace(), 1);
        Due.due("SHEETS stay", x.cell(0, 0, 2), 'n');
        for (int k = 0; k < 2; k++) {
            Due.due("eight houses each time", Due.take(x, EIGHT_HOUSES + "0."), 9);
            Due.due("eight trees each time", Due.take(x, EIGHT_TREES + "0."), 9);
        }
        Due.due("less land", Due.take(x, "n12;0.0."), 2);
        Due.due("its HOUSES", x.many(2), 0);
        Due.due("its TREES", x.many(3), 0);
        Due.due("a CELL that was", x.ofCell(2, 0), SeenNumbers.UNKNOWN);
        Due.due("a HOUSE that was", x.ofHouse(0, 0), SeenNumbers.UNKNOWN);
        Due.due("a TREE that was", x.ofTree(0, 0), SeenNumbers.UNKNOWN);
    }

    private static void cells() {
        SeenNumbers x = Due.landOf(MIXED);
        int[] grounds = {0, 0, 1, 0, 0, 2, 2, 0, 0, 0};
        int[] tops = {3, 0, 3, 0, 4, 3, 6, 0, 3, 0};
        int[] things = {10, 0, 20, 0, 11, 12, 13, 0, 21, 0};
        for (int c = 0; c < 10; c++) {
            Due.due("GROUND of " + c, x.ofCell(c, 0), grounds[c]);
            Due.due("TOP of " + c, x.ofCell(c, 1), tops[c]);
            Due.due("what is on " + c, x.ofCell(c, 2), things[c]);
        }
        x.wall(7, 9);
        Due.due("TOP with a WALL", x.ofCell(7, 1), 9);
        Due.due("a WALL is nothing", x.ofCell(7, 2), 0);
        x.fell(0, true);
        Due.due("TOP with a felled TREE", x.ofCell(2, 1), 1);
        Due.due("a felled TREE is something", x.ofCell(2, 2), 20);
        Due.due("CELL -1", x.ofCell(-1, 3), SeenNumbers.UNKNOWN);
        Due.due("CELL 10", x.ofCell(10, 0), SeenNumbers.UNKNOWN);
        Due.due("what 3", x.ofCell(9, 3), SeenNumbers.OUTSIDE);
        Due.due("what -1", x.ofCell(9, -1), SeenNumbers.OUTSIDE);
    }

    private static void houses() {
        SeenNumbers x = Due.landOf(MIXED);
        int[][] due = {{0, 0, 3, 3, 0}, {1, 4, 4, 4, 0}, {0, 5, 1, 1, 0}, {2, 6, 1, 4, 0}};
        int[][] later = {{0, 0, 3, 5, 2}, {1, 4, 4, 8, 3}, {0, 5, 1, 1, 0}, {2, 6, 1, 6, 1}};
        for (int h = 0; h < 4; h++) {
            for (int what = 0; what < 5; what++) {
                Due.due("HOUSE " + h + " what " + what, x.ofHouse(h, what), due[h][what]);
            }
        }
        x.floors(0, 2);
        x.floors(1, 3);
        x.floors(3, 1);
        x.times(30, 1, 1);
        for (int h = 0; h < 4; h++) {
            for (int what = 0; what < 5; what++) {
                Due.due("by law 1: HOUSE " + h + " what " + what, x.ofHouse(h, what), later[h][what]);
            }
        }
        Due.due("TOP of a TOWER by law 1", x.ofCell(6, 1), 8);
        Due.due("HOUSE -1", x.ofHouse(-1, 5), SeenNumbers.UNKNOWN);
        Due.due("HOUSE 4", x.ofHouse(4, 0), SeenNumbers.UNKNOWN);
        Due.due("what 5", x.ofHouse(3, 5), SeenNumbers.OUTSIDE);
        Due.due("what -1", x.ofHouse(3, -1), SeenNumbers.OUTSIDE);
    }

    private static void trees() {
        SeenNumbers x = Due.landOf(MIXED);
        Due.due("CELL of TREE 0", x.ofTree(0, 0), 2);
        Due.due("CELL of TREE 1", x.ofTree(1, 0), 8);
        Due.due("TALL at first", x.ofTree(1, 1), 3);
        Due.due("TALL now", x.ofTree(1, 2), 3);
        x.times(1, 9, 0);
        Due.due("TALL in YEAR 1", x.ofTree(1, 2), 3);
        x.times(2, 9, 0);
        Due.due("TALL in YEAR 2", x.ofTree(1, 2), 4);
        x.times(30, 9, 1);
        Due.due("TALL in YEAR 30", x.ofTree(1, 2), 18);
        Due.due("TALL at first, in YEAR 30", x.ofTree(1, 1), 3);
        x.fell(1, true);
        Due.due("TALL when felled", x.ofTree(1, 2), 0);
        Due.due("is felled", x.ofTree(1, 3), 1);
        Due.due("the other is not", x.ofTree(0, 3), 0);
        Due.due("TREE -1", x.ofTree(-1, 4), SeenNumbers.UNKNOWN);
        Due.due("TREE 2", x.ofTree(2, 0), SeenNumbers.UNKNOWN);
        Due.due("what 4", x.ofTree(1, 4), SeenNumbers.OUTSIDE);
        Due.due("what -1", x.ofTree(1, -1), SeenNumbers.OUTSIDE);
    }

    private static void timesBecomeSo() {
        SeenNumbers x = Due.landOf(MIXED);
        Due.due("as they were", x.times(0, 9, 0), 0);
        Due.due("another YEAR", x.times(30, 9, 0), 1);
        Due.due("another FOG", x.times(30, 1, 0), 1);
        Due.due("another LAW", x.times(30, 1, 1), 1);
        Due.due("as they were", x.times(30, 1, 1), 0);
        int[][] outside = {{-1, 1, 0}, {31, 1, 0}, {0, 0, 0}, {0, 10, 0}, {0, 1, -1}, {0, 1, 2}};
        for (int[] o : outside) {
            Due.due("OUTSIDE", x.times(o[0], o[1], o[2]), SeenNumbers.OUTSIDE);
        }
        Due.due("YEAR stays", x.many(5), 30);
        Due.due("FOG stays", x.many(6), 1);
    }

    private static void walls() {
        SeenNumbers x = Due.landOf(MIXED);
        Due.due("a WALL", x.wall(1, 9), 0);
        Due.due("another", x.wall(1, 2), 9);
        Due.due("none", x.wall(1, 0), 2);
        Due.due("again none", x.wall(1, 0), 0);
        Due.due("of the last CELL", x.wall(9, 1), 0);
        Due.due("10 of no CELL", x.wall(10, 10), SeenNumbers.UNKNOWN);
        Due.due("CELL -1", x.wall(-1, 0), SeenNumbers.UNKNOWN);
        Due.due("10 on a HOUSE", x.wall(0, 10), SeenNumbers.OUTSIDE);
        Due.due("-1", x.wall(9, -1), SeenNumbers.OUTSIDE);
        Due.due("on a HOUSE", x.wall(0, 0), SeenNumbers.STATE);
        Due.due("on a TREE", x.wall(2, 5), SeenNumbers.STATE);
        x.fell(0, true);
        Due.due("on a felled TREE", x.wall(2, 5), SeenNumbers.STATE);
        Due.due("the last one stays", x.wall(9, 0), 1);
    }

    private static void floorsOfHouses() {
        SeenNumbers x = Due.landOf(MIXED);
        Due.due("nine", x.floors(3, 9), 0);
        Due.due("TALL then", x.ofHouse(3, 3), 13);
        Due.due("ten", x.floors(3, 10), SeenNumbers.OUTSIDE);
        Due.due("-1", x.floors(3, -1), SeenNumbers.OUTSIDE);
        Due.due("none", x.floors(3, 0), 9);
        Due.due("none again", x.floors(3, 0), 0);
        Due.due("ten of no HOUSE", x.floors(4, 10), SeenNumbers.UNKNOWN);
        Due.due("HOUSE -1", x.floors(-1, 0), SeenNumbers.UNKNOWN);
    }

    private static void fellings() {
        SeenNumbers x = Due.landOf(MIXED);
        Due.due("stands", x.fell(1, false), 0);
        Due.due("felled", x.fell(1, true), 1);
        Due.due("felled again", x.fell(1, true), 0);
        Due.due("the other one", x.fell(0, true), 1);
        Due.due("stands again", x.fell(1, false), 1);
        Due.due("as it was", x.ofTree(1, 2), 3);
        Due.due("the other is felled still", x.ofTree(0, 3), 1);
        Due.due("TREE 2", x.fell(2, true), SeenNumbers.UNKNOWN);
        Due.due("TREE -1", x.fell(-1, false), SeenNumbers.UNKNOWN);
    }
}
