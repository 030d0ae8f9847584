/** Promises 26 to 35: sheets, copies, tellings, rents, kinds, the trace, the latest fault. */
final class SheetsTest {
    private static final String KINDS = "n13;0h30c40r5";

    private SheetsTest() {
    }

    public static void main(String[] args) {
        newRows();
        lost();
        cutToItsLane();
        cells();
        copies();
        copiesAreRefused();
        tellings();
        rents();
        kinds();
        traces();
        latestFaults();
        Due.end(SheetsTest.class);
    }

    private static void newRows() {
        SeenNumbers x = new SeenNumbers();
        for (int k = 0; k < 4; k++) {
            Due.due("a row of none", x.sheet(k, k % 3, 0), 1);
            Due.due("which has no cell", x.put(k, 0, 1), -13);
            Due.due("a row of 100", x.sheet(k, k % 3, 100), 1);
            Due.due("its last cell", x.put(k, 99, 7), 1);
            Due.due("none beyond", x.put(k, 100, 7), -13);
            Due.due("7 there", x.cell(k, 99, k % 3), 7);
            x.put(k, 0, 7);
            x.sheet(k, k % 3, 100);
            Due.due("0 in a new row", x.cell(k, 99, k % 3), 0);
            Due.due("0 at its begin", x.cell(k, 0, k % 3), 0);
        }
        x.put(0, 5, 3);
        Due.due("SHEET 4", x.sheet(4, 3, -1), SeenNumbers.UNKNOWN);
        Due.due("SHEET -1", x.sheet(-1, 0, 1), SeenNumbers.UNKNOWN);
        Due.due("LANE 3", x.sheet(0, 3, -1), SeenNumbers.OUTSIDE);
        Due.due("LANE -1", x.sheet(0, -1, 1), SeenNumbers.OUTSIDE);
        Due.due("101", x.sheet(0, 0, 101), SeenNumbers.OUTSIDE);
        Due.due("-1", x.sheet(0, 0, -1), -14);
        Due.due("least", x.sheet(0, 0, Integer.MIN_VALUE), -14);
        Due.due("the row stays", x.cell(0, 5, 0), 3);
    }

    private static void lost() {
        SeenNumbers x = new SeenNumbers();
        Due.due("had nothing", x.lose(3), 0);
        x.sheet(3, 0, 0);
        Due.due("had a row of none", x.lose(3), 1);
        Due.due("had nothing again", x.lose(3), 0);
        Due.due("put to nothing", x.put(3, -1, 1), -11);
        x.sheet(3, 0, 2);
        x.put(3, 1, 9);
        x.sheet(2, 1, 1);
        Due.due("had a row", x.lose(3), 1);
        Due.due("the other SHEET has its row still", x.cell(2, 0, 1), 0);
        Due.due("a row of another LANE then", x.sheet(3, 2, 3), 1);
        Due.due("with nothing of the lost one", x.cell(3, 1, 2), 0);
        Due.due("and no longer of that LANE", x.cell(3, 1, 0), SeenNumbers.LOST);
        Due.due("SHEET 4", x.lose(4), SeenNumbers.UNKNOWN);
        Due.due("SHEET -1", x.lose(-1), SeenNumbers.UNKNOWN);
    }

    private static void cut(int lane, int v, int want) {
        SeenNumbers x = new SeenNumbers();
        x.sheet(0, lane, 3);
        Due.due("put " + v, x.put(0, 1, v), 1);
        Due.due(v + " cut to lane " + lane, x.cell(0, 1, lane), want);
        Due.due("the cell ahead", x.cell(0, 0, lane), 0);
        Due.due("the cell behind", x.cell(0, 2, lane), 0);
    }

    private static void cutToItsLane() {
        int[] values = {0, 1, -1, 127, 128, -128, -129, 255, 256, 300, 32767, 32768, -32768, -32769, 65535, 70001,
            Integer.MAX_VALUE, Integer.MIN_VALUE};
        for (int v : values) {
            cut(0, v, (byte) v);
            cut(1, v, (short) v);
            cut(2, v, v);
        }
    }

    private static void cells() {
        SeenNumbers x = new SeenNumbers();
        x.sheet(0, 1, 2);
        x.put(0, 0, -5);
        Due.due("a short", x.cell(0, 0, 1), -5);
        lostCell(x, 4, 0, 0, 0);
        lostCell(x, -1, 0, 3, 0);
        lostCell(x, 0, 0, 3, 0);
        lostCell(x, 0, 0, -1, 0);
        lostCell(x, 1, -1, 0, 1);
        lostCell(x, 0, -1, 0, 2);
        lostCell(x, 0, -1, 2, 2);
        lostCell(x, 0, -1, 1, 3);
        lostCell(x, 0, 2, 1, 3);
        Due.due("the other one", x.cell(0, 1, 1), 0);
        Due.due("fault() of it", x.fault(), 0);
        Due.due("put SHEET 4", x.put(4, 0, 0), SeenNumbers.UNKNOWN);
        Due.due("put SHEET -1", x.put(-1, 0, 0), SeenNumbers.UNKNOWN);
        Due.due("put cell -1", x.put(0, -1, 0), -13);
        Due.due("put cell 2", x.put(0, 2, 0), -13);
        Due.due("put nothing", x.put(2, 0, 0), -11);
    }

    private static void lostCell(SeenNumbers x, int k, int i, int lane, int fault) {
        Due.due("cell(" + k + ", " + i + ", " + lane + ")", x.cell(k, i, lane), SeenNumbers.LOST);
        Due.due("fault() of it", x.fault(), fault);
    }

    private static SeenNumbers counted() {
        SeenNumbers x = new SeenNumbers();
        x.sheet(0, 0, 6);
        x.sheet(1, 0, 4);
        for (int i = 0; i < 6; i++) {
            x.put(0, i, i + 1);
        }
        return x;
    }

    private static void row(SeenNumbers x, int k, int... want) {
        for (int i = 0; i < want.length; i++) {
            Due.due("cell " + i + " of SHEET " + k, x.cell(k, i, 0), want[i]);
        }
    }

    private static void copies() {
        SeenNumbers x = counted();
        Due.due("to another", x.copy(0, 2, 1, 1, 3), 3);
        row(x, 1, 0, 3, 4, 5);
        row(x, 0, 1, 2, 3, 4, 5, 6);
        Due.due("up in the same", x.copy(0, 0, 0, 2, 4), 4);
        row(x, 0, 1, 2, 1, 2, 3, 4);
        x = counted();
        Due.due("down in the same", x.copy(0, 2, 0, 0, 4), 4);
        row(x, 0, 3, 4, 5, 6, 5, 6);
        Due.due("none at the ends", x.copy(0, 6, 1, 4, 0), 0);
        Due.due("fault() of it", x.fault(), 0);
        Due.due("all", x.copy(1, 0, 0, 2, 4), 4);
        row(x, 0, 3, 4, 0, 0, 0, 0);
        Due.due("to where they are", x.copy(0, 0, 0, 0, 6), 6);
        row(x, 0, 3, 4, 0, 0, 0, 0);
        x.sheet(2, 2, 0);
        x.sheet(3, 2, 0);
        Due.due("none of none", x.copy(2, 0, 3, 0, 0), 0);
        Due.due("one of none", x.copy(2, 0, 3, 0, 1), -13);
        x.sheet(2, 2, 100);
        x.sheet(3, 2, 100);
        x.put(2, 0, Integer.MIN_VALUE);
        x.put(2, 99, Integer.MAX_VALUE);
        Due.due("the longest row", x.copy(2, 0, 3, 0, 100), 100);
        Due.due("its first cell", x.cell(3, 0, 2), Integer.MIN_VALUE);
        Due.due("its last cell", x.cell(3, 99, 2), Integer.MAX_VALUE);
        Due.due("one more than that", x.copy(2, 0, 3, 0, 101), -13);
    }

    private static void copiesAreRefused() {
        SeenNumbers x = counted();
        x.sheet(2, 2, 4);
        Due.due("from SHEET 4", x.copy(4, 0, 3, 0, -1), SeenNumbers.UNKNOWN);
        Due.due("to SHEET -1", x.copy(3, 0, -1, 0, -1), SeenNumbers.UNKNOWN);
        Due.due("from nothing", x.copy(3, -1, 0, 0, -1), -11);
        Due.due("to nothing", x.copy(0, -1, 3, 0, -1), -11);
        Due.due("unlike LANES", x.copy(0, -1, 2, 0, -1), -12);
        int[][] index = {{-1, 0, 1}, {0, -1, 1}, {0, 0, -1}, {7, 0, 0}, {0, 5, 0}, {3, 0, 4}, {0, 1, 4}, {-1, -1, 0},
            {0, 0, Integer.MAX_VALUE}, {Integer.MAX_VALUE, 0, 1}, {1, Integer.MAX_VALUE, Integer.MAX_VALUE}};
        for (int[] p : index) {
            Due.due("copy from " + p[0] + " to " + p[1] + ", " + p[2] + " cells", x.copy(0, p[0], 1, p[1], p[2]), -13);
            Due.due("fault() of it", x.fault(), 3);
        }
        row(x, 1, 0, 0, 0, 0);
    }

    private static void tellings() {
        SeenNumbers x = Due.landOf(KINDS);
        x.floors(0, 9);
        x.times(0, 9, 1);
        Due.due("a HOUSE", x.tell(0), 3);
        Due.due("its trace", x.trace(), 1);
        Due.due("a CHIMNEY", x.tell(1), 104);
        Due.due("its trace", x.trace(), (1 * 31 + 2) * 31 + 1);
        x = Due.landOf(KINDS);
        Due.due("a TOWER", x.tell(2), 110);
        Due.due("its trace", x.trace(), ((3 * 31 + 2) * 31 + 1) * 31 + 1);
        int before = x.trace();
        Due.due("tell(3)", x.tell(3), SeenNumbers.UNKNOWN);
        Due.due("tell(-1)", x.tell(-1), SeenNumbers.UNKNOWN);
        Due.due("no trace of it", x.trace(), before);
        Due.due("without LAND", new SeenNumbers().tell(0), SeenNumbers.UNKNOWN);
    }

    private static void rents() {
        SeenNumbers x = Due.landOf(KINDS);
        Due.due("a HOUSE", x.rent(0), 0);
        Due.due("its trace", x.trace(), 4);
        Due.due("a CHIMNEY", x.rent(1), 1);
        Due.due("its trace", x.trace(), 4 * 31 + 4);
        Due.due("a TOWER", x.rent(2), 70);
        Due.due("its trace", x.trace(), (4 * 31 + 4) * 31 + 5);
        int before = x.trace();
        Due.due("rent(3)", x.rent(3), SeenNumbers.UNKNOWN);
        Due.due("rent(-1)", x.rent(-1), SeenNumbers.UNKNOWN);
        Due.due("no trace of it", x.trace(), before);
        Due.due("without LAND", new SeenNumbers().rent(0), SeenNumbers.UNKNOWN);
    }

    private static void kinds() {
        SeenNumbers x = Due.landOf(KINDS);
        for (int h = 0; h < 3; h++) {
            for (int kind = 0; kind < 3; kind++) {
                boolean is = h >= kind;
                Due.due("as(" + h + ", " + kind + ")", x.as(h, kind), is ? 1 : -12);
                Due.due("fault() of it", x.fault(), is ? 0 : 2);
            }
        }
        Due.due("as(0, 3)", x.as(0, 3), SeenNumbers.OUTSIDE);
        Due.due("as(0, -1)", x.as(0, -1), SeenNumbers.OUTSIDE);
        Due.due("as(3, 3)", x.as(3, 3), SeenNumbers.UNKNOWN);
        Due.due("as(-1, 0)", x.as(-1, 0), SeenNumbers.UNKNOWN);
        Due.due("without LAND", new SeenNumbers().as(0, 0), SeenNumbers.UNKNOWN);
    }

    private static void traces() {
        SeenNumbers x = Due.landOf(KINDS);
        int due = 0;
        for (int k = 0; k < 20; k++) {
            x.rent(2);
            due = 31 * due + 5;
            Due.due("TRACE that wraps, " + k, x.trace(), due);
        }
        Due.take(x, KINDS);
        Due.due("TRACE of another land", x.trace(), due);
    }

    private static void latestFaults() {
        SeenNumbers x = Due.landOf(KINDS);
        x.as(0, 2);
        x.lose(3);
        x.number(0);
        x.tell(0);
        x.many(9);
        Due.due("calls that name none", x.fault(), 2);
        Due.due("asked again", x.fault(), 2);
        x.as(9, 2);
        Due.due("as refused", x.fault(), 0);
        x.as(0, 2);
        x.as(0, 9);
        Due.due("as OUTSIDE", x.fault(), 0);
        x.put(3, 0, 0);
        Due.due("put NULL", x.fault(), 1);
        x.put(9, 0, 0);
        Due.due("put refused", x.fault(), 0);
        x.sheet(3, 0, -1);
        Due.due("sheet SIZE", x.fault(), 4);
        x.sheet(3, 0, 101);
        Due.due("sheet refused", x.fault(), 0);
        x.sheet(3, 0, -1);
        x.sheet(9, 0, -1);
        Due.due("sheet UNKNOWN", x.fault(), 0);
        x.sheet(3, 0, -1);
        x.sheet(3, 0, 1);
        Due.due("sheet as it should be", x.fault(), 0);
        x.copy(3, 0, 2, 0, 0);
        Due.due("copy NULL", x.fault(), 1);
        x.copy(9, 0, 2, 0, 0);
        Due.due("copy refused", x.fault(), 0);
        x.copy(3, 0, 0, 0, 1);
        Due.due("copy CAST", x.fault(), 2);
        x.put(3, 0, 1);
        Due.due("put as it should be", x.fault(), 0);
        x.put(3, 1, 1);
        Due.due("put INDEX", x.fault(), 3);
        x.cell(3, 0, 0);
        Due.due("cell as it should be", x.fault(), 0);
        x.cell(3, 1, 0);
        Due.due("cell INDEX", x.fault(), 3);
        x.cell(3, 1, 3);
        Due.due("cell OUTSIDE", x.fault(), 0);
        x.cell(3, 1, 0);
        x.cell(4, 1, 0);
        Due.due("cell UNKNOWN", x.fault(), 0);
    }
}
