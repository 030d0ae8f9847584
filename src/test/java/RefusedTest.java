import java.util.function.ToLongFunction;

/**
 * Every refusal and every fault of every promise, several at once too (the first in the order of the
 * call's line is due), and after each: nothing but fault() is another.
 */
final class RefusedTest {
    private static final String TEXT = "n23;0h30t21.;1c40.0r5";
    private static final int LENGTH = TEXT.length();
    private static final int NULL = 1, CAST = 2, INDEX = 3, SIZE = 4;
    /** The fault ahead of each call, which stays if the call names none. */
    private static final int STAYS = CAST;
    private static final int MOST = Integer.MAX_VALUE, LEAST = Integer.MIN_VALUE;

    private RefusedTest() {
    }

    public static void main(String[] args) {
        landIsRefused();
        partsAreRefused();
        changesAreRefused();
        questionsAreRefused();
        whatIfsAreRefused();
        pastIsRefused();
        sheetsAreRefused();
        copiesAreRefused();
        bodiesAreRefused();
        withoutLand();
        Due.end(RefusedTest.class);
    }

    /** Two rows of three: a house, a tree, a wall; a chimney, nothing, a tower. */
    private static SeenNumbers built() {
        SeenNumbers x = Due.landOf(TEXT);
        x.times(4, 3, 1);
        x.wall(2, 3);
        x.floors(1, 2);
        x.reading(0, 1, 2);
        x.sheet(1, 0, 3);
        x.put(1, 0, 5);
        x.put(1, 2, 7);
        x.sheet(2, 1, 2);
        x.put(2, 1, 300);
        x.tell(2);
        x.as(0, 2);
        return x;
    }

    private static SeenNumbers empty() {
        SeenNumbers x = new SeenNumbers();
        x.sheet(1, 0, 3);
        x.sheet(1, 1, -1);
        return x;
    }

    private static String stateOf(SeenNumbers x) {
        StringBuilder state = new StringBuilder().append(x.trace());
        for (int what = 0; what < 7; what++) {
            state.append(' ').append(x.many(what));
        }
        for (int c = 0; c < 7; c++) {
            state.append(" c").append(x.ofCell(c, 0)).append(',').append(x.ofCell(c, 1)).append(',').append(x.ofCell(c, 2));
        }
        for (int h = 0; h < 4; h++) {
            for (int what = 0; what < 5; what++) {
                state.append(" h").append(x.ofHouse(h, what));
            }
            state.append(" n").append(x.number(h));
        }
        for (int what = 0; what < 4; what++) {
            state.append(" t").append(x.ofTree(0, what)).append(',').append(x.ofTree(1, what));
        }
        state.append(' ').append(x.fogs()).append(' ').append(x.stood(0)).append(' ').append(x.stood(1));
        for (int k = 0; k < 4; k++) {
            for (int i = 0; i < LENGTH + 1; i++) {
                state.append(" s").append(x.cell(k, i, k == 0 ? 2 : k - 1));
            }
        }
        return state.toString();
    }

    private static void refused(String what, ToLongFunction<SeenNumbers> call, long want, int fault) {
        SeenNumbers x = built();
        Due.due(what, call.applyAsLong(x), want);
        Due.due("fault() after: " + what, x.fault(), fault);
        Due.holds("nothing is another after: " + what, stateOf(x).equals(stateOf(built())));
    }

    private static void unknown(String what, ToLongFunction<SeenNumbers> call, int fault) {
        refused(what + ": UNKNOWN", call, SeenNumbers.UNKNOWN, fault);
    }

    private static void outside(String what, ToLongFunction<SeenNumbers> call, int fault) {
        refused(what + ": OUTSIDE", call, SeenNumbers.OUTSIDE, fault);
    }

    private static void state(String what, ToLongFunction<SeenNumbers> call) {
        refused(what + ": STATE", call, SeenNumbers.STATE, STAYS);
    }

    private static void lost(String what, ToLongFunction<SeenNumbers> call, int fault) {
        refused(what + ": LOST", call, SeenNumbers.LOST, fault);
    }

    private static void faults(String what, ToLongFunction<SeenNumbers> call, int fault) {
        refused(what + ": FAULT " + fault, call, -10 - fault, fault);
    }

    private static void landIsRefused() {
        unknown("land of SHEET 4, and all else wrong", x -> x.land(4, 3, -1, -1), 0);
        unknown("land of SHEET -1", x -> x.land(-1, 2, 0, LENGTH), 0);
        outside("land of LANE 3, and all behind it wrong", x -> x.land(0, 3, -1, -1), 0);
        outside("land of LANE -1", x -> x.land(0, -1, 0, LENGTH), 0);
        outside("land of LANE 3 of nothing", x -> x.land(3, 3, 0, 0), 0);
        faults("land of nothing: no CAST, ahead of SIZE", x -> x.land(3, 0, -1, -1), NULL);
        faults("land of nothing, none taken", x -> x.land(3, 2, 0, 0), NULL);
        faults("land of another LANE, ahead of SIZE", x -> x.land(0, 1, -1, -1), CAST);
        faults("land of another LANE, ahead of INDEX", x -> x.land(0, 0, -1, 1), CAST);
        faults("land of another LANE, none taken", x -> x.land(1, 2, 0, 0), CAST);
        faults("land, n -1, ahead of INDEX", x -> x.land(0, 2, -1, -1), SIZE);
        faults("land, n -1 behind the end", x -> x.land(0, 2, LENGTH + 1, -1), SIZE);
        faults("land, least n", x -> x.land(0, 2, 0, LEAST), SIZE);
        faults("land, i -1", x -> x.land(0, 2, -1, 1), INDEX);
        faults("land, i -1, none taken", x -> x.land(0, 2, -1, 0), INDEX);
        faults("land, least i", x -> x.land(0, 2, LEAST, MOST), INDEX);
        faults("land, one beyond", x -> x.land(0, 2, 0, LENGTH + 1), INDEX);
        faults("land, one beyond from 1 on", x -> x.land(0, 2, 1, LENGTH), INDEX);
        faults("land, one from the end on", x -> x.land(0, 2, LENGTH, 1), INDEX);
        faults("land, none from behind the end on", x -> x.land(0, 2, LENGTH + 1, 0), INDEX);
        faults("land, most of both", x -> x.land(0, 2, MOST, MOST), INDEX);
        faults("land, most n", x -> x.land(0, 2, 1, MOST), INDEX);
        refused("land, none from the end on", x -> x.land(0, 2, LENGTH, 0), -100, 0);
        refused("land, none", x -> x.land(0, 2, 0, 0), -100, 0);
        refused("land, one too few", x -> x.land(0, 2, 0, LENGTH - 1), -100 - LENGTH + 1, 0);
        refused("land of a row that is no TEXT", x -> x.land(1, 0, 0, 3), -100, 0);
    }

    private static void partsAreRefused() {
        unknown("ofCell of CELL 6, what 3", x -> x.ofCell(6, 3), STAYS);
        unknown("ofCell of CELL -1", x -> x.ofCell(-1, 0), STAYS);
        unknown("ofCell of the most", x -> x.ofCell(MOST, 0), STAYS);
        outside("ofCell, what 3", x -> x.ofCell(5, 3), STAYS);
        outside("ofCell, what -1", x -> x.ofCell(0, -1), STAYS);
        unknown("ofHouse of HOUSE 3, what 5", x -> x.ofHouse(3, 5), STAYS);
        unknown("ofHouse of HOUSE -1", x -> x.ofHouse(-1, 0), STAYS);
        outside("ofHouse, what 5", x -> x.ofHouse(2, 5), STAYS);
        outside("ofHouse, what -1", x -> x.ofHouse(0, -1), STAYS);
        unknown("ofTree of TREE 1, what 4", x -> x.ofTree(1, 4), STAYS);
        unknown("ofTree of TREE -1", x -> x.ofTree(-1, 0), STAYS);
        outside("ofTree, what 4", x -> x.ofTree(0, 4), STAYS);
        outside("ofTree, what -1", x -> x.ofTree(0, -1), STAYS);
        outside("many 7", x -> x.many(7), STAYS);
        outside("many -1", x -> x.many(-1), STAYS);
    }

    private static void changesAreRefused() {
        outside("times, YEAR -1", x -> x.times(-1, 1, 0), STAYS);
        outside("times, YEAR 31", x -> x.times(31, 1, 0), STAYS);
        outside("times, FOG 0", x -> x.times(0, 0, 0), STAYS);
        outside("times, FOG 10", x -> x.times(0, 10, 0), STAYS);
        outside("times, LAW -1", x -> x.times(0, 1, -1), STAYS);
        outside("times, LAW 2", x -> x.times(0, 1, 2), STAYS);
        unknown("wall on CELL 6, 10 high", x -> x.wall(6, 10), STAYS);
        unknown("wall on CELL -1", x -> x.wall(-1, 1), STAYS);
        outside("wall, 10 high", x -> x.wall(2, 10), STAYS);
        outside("wall, -1 high", x -> x.wall(2, -1), STAYS);
        outside("wall on a HOUSE, 10 high", x -> x.wall(0, 10), STAYS);
        state("wall on a HOUSE", x -> x.wall(0, 1));
        state("wall on a TREE", x -> x.wall(1, 1));
        state("wall of 0 on a HOUSE", x -> x.wall(3, 0));
        state("wall of 0 on a TREE", x -> x.wall(1, 0));
        unknown("floors of HOUSE 3, 10", x -> x.floors(3, 10), STAYS);
        unknown("floors of HOUSE -1", x -> x.floors(-1, 1), STAYS);
        outside("floors, 10", x -> x.floors(1, 10), STAYS);
        outside("floors, -1", x -> x.floors(1, -1), STAYS);
        unknown("fell TREE 1", x -> x.fell(1, true), STAYS);
        unknown("fell TREE -1", x -> x.fell(-1, true), STAYS);
        unknown("fell TREE 32", x -> x.fell(32, true), STAYS);
    }

    private static void questionsAreRefused() {
        unknown("see of HOUSE 3", x -> x.see(3, 0), STAYS);
        unknown("see of HOUSE -1", x -> x.see(-1, 0), STAYS);
        unknown("see to HOUSE 3", x -> x.see(0, 3), STAYS);
        unknown("see to HOUSE -1", x -> x.see(0, -1), STAYS);
        unknown("see of one HOUSE", x -> x.see(2, 2), STAYS);
        unknown("number of HOUSE 3", x -> x.number(3), STAYS);
        unknown("number of HOUSE -1", x -> x.number(-1), STAYS);
        outside("having 8", x -> x.having(8), STAYS);
        outside("having -1", x -> x.having(-1), STAYS);
        outside("letter to 8", x -> x.letter(8, 0), STAYS);
        outside("letter to -1", x -> x.letter(-1, 0), STAYS);
        outside("letter, seen by 8", x -> x.letter(0, 8), STAYS);
        outside("letter, seen by -1", x -> x.letter(0, -1), STAYS);
        lost("mean 2", x -> x.mean(2), STAYS);
        lost("mean -1", x -> x.mean(-1), STAYS);
    }

    private static void whatIfsAreRefused() {
        unknown("walled of HOUSE 3 for 8", x -> x.walled(3, 8), STAYS);
        unknown("walled of HOUSE -1", x -> x.walled(-1, 0), STAYS);
        outside("walled for 8", x -> x.walled(0, 8), STAYS);
        outside("walled for -1", x -> x.walled(0, -1), STAYS);
        unknown("raised of HOUSE 3 for 8", x -> x.raised(3, 8), STAYS);
        unknown("raised of HOUSE -1", x -> x.raised(-1, 0), STAYS);
        outside("raised for 8", x -> x.raised(0, 8), STAYS);
        outside("raised for -1", x -> x.raised(0, -1), STAYS);
        unknown("felling of HOUSE 3 for 8", x -> x.felling(3, 8), STAYS);
        unknown("felling of HOUSE -1", x -> x.felling(-1, 0), STAYS);
        outside("felling for 8", x -> x.felling(0, 8), STAYS);
        outside("felling for -1", x -> x.felling(0, -1), STAYS);
        unknown("fresh on CELL 6, 0 tall", x -> x.fresh(6, 0, 2), STAYS);
        unknown("fresh on CELL -1", x -> x.fresh(-1, 1, 0), STAYS);
        outside("fresh on a HOUSE, 0 tall", x -> x.fresh(0, 0, 0), STAYS);
        outside("fresh, 10 tall", x -> x.fresh(4, 10, 0), STAYS);
        outside("fresh, what 2", x -> x.fresh(4, 1, 2), STAYS);
        outside("fresh, what -1", x -> x.fresh(4, 1, -1), STAYS);
        state("fresh on a HOUSE", x -> x.fresh(0, 1, 0));
        state("fresh on a TREE", x -> x.fresh(1, 1, 1));
        state("fresh on a WALL", x -> x.fresh(2, 1, 0));
        lost("free, 0 tall", x -> x.free(0, 0), STAYS);
        lost("free, 10 tall", x -> x.free(10, 0), STAYS);
        lost("free for 9", x -> x.free(1, 9), STAYS);
        lost("free for -1", x -> x.free(1, -1), STAYS);
    }

    private static void pastIsRefused() {
        unknown("change of HOUSE 3", x -> x.change(3), STAYS);
        unknown("change of HOUSE -1", x -> x.change(-1), STAYS);
        unknown("reading of HOUSE 3, all else wrong", x -> x.reading(3, 31, 8), STAYS);
        unknown("reading of HOUSE -1", x -> x.reading(-1, 0, 0), STAYS);
        outside("reading, YEAR 31", x -> x.reading(0, 31, 0), STAYS);
        outside("reading, YEAR -1", x -> x.reading(0, -1, 0), STAYS);
        outside("reading of 8", x -> x.reading(0, 0, 8), STAYS);
        outside("reading of -1", x -> x.reading(0, 0, -1), STAYS);
        outside("back 2 of 1", x -> x.back(2), STAYS);
        outside("back -1", x -> x.back(-1), STAYS);
        outside("back the most", x -> x.back(MOST), STAYS);
        outside("back the least", x -> x.back(LEAST), STAYS);
        outside("stood, what 2", x -> x.stood(2), STAYS);
        outside("stood, what -1", x -> x.stood(-1), STAYS);
    }

    private static void sheetsAreRefused() {
        unknown("sheet 4, all else wrong", x -> x.sheet(4, 3, 101), 0);
        unknown("sheet -1", x -> x.sheet(-1, 0, 1), 0);
        outside("sheet of LANE 3, n -1", x -> x.sheet(1, 3, -1), 0);
        outside("sheet of LANE -1", x -> x.sheet(1, -1, 1), 0);
        outside("sheet of 101", x -> x.sheet(1, 0, 101), 0);
        outside("sheet of the most", x -> x.sheet(1, 0, MOST), 0);
        faults("sheet of -1", x -> x.sheet(1, 0, -1), SIZE);
        faults("sheet of the least", x -> x.sheet(3, 2, LEAST), SIZE);
        unknown("lose 4", x -> x.lose(4), STAYS);
        unknown("lose -1", x -> x.lose(-1), STAYS);
        unknown("put to SHEET 4, cell -1", x -> x.put(4, -1, 1), 0);
        unknown("put to SHEET -1", x -> x.put(-1, 0, 1), 0);
        faults("put to nothing, cell -1", x -> x.put(3, -1, 1), NULL);
        faults("put to nothing", x -> x.put(3, 0, 1), NULL);
        faults("put to cell -1", x -> x.put(1, -1, 1), INDEX);
        faults("put to cell 3 of 3", x -> x.put(1, 3, 1), INDEX);
        faults("put to the most", x -> x.put(1, MOST, 1), INDEX);
        faults("put to the least", x -> x.put(1, LEAST, 1), INDEX);
        lost("cell of SHEET 4, LANE 3", x -> x.cell(4, 0, 3), 0);
        lost("cell of SHEET -1", x -> x.cell(-1, 0, 0), 0);
        lost("cell of LANE 3, nothing there", x -> x.cell(3, 0, 3), 0);
        lost("cell of LANE -1", x -> x.cell(1, 0, -1), 0);
        lost("cell of nothing: no CAST, ahead of INDEX", x -> x.cell(3, -1, 0), NULL);
        lost("cell of another LANE, ahead of INDEX", x -> x.cell(1, -1, 1), CAST);
        lost("cell -1", x -> x.cell(1, -1, 0), INDEX);
        lost("cell 3 of 3", x -> x.cell(1, 3, 0), INDEX);
    }

    private static void copiesAreRefused() {
        unknown("copy from SHEET 4, to nothing", x -> x.copy(4, -1, 3, -1, -1), 0);
        unknown("copy from SHEET -1", x -> x.copy(-1, 0, 1, 0, 1), 0);
        unknown("copy from nothing to SHEET 4", x -> x.copy(3, -1, 4, -1, -1), 0);
        unknown("copy to SHEET -1", x -> x.copy(1, 0, -1, 0, 1), 0);
        faults("copy from nothing", x -> x.copy(3, -1, 1, -1, -1), NULL);
        faults("copy to nothing", x -> x.copy(1, -1, 3, -1, -1), NULL);
        faults("copy from nothing to the same", x -> x.copy(3, 0, 3, 0, 0), NULL);
        faults("copy to another LANE, ahead of INDEX", x -> x.copy(1, -1, 2, -1, -1), CAST);
        faults("copy none to another LANE", x -> x.copy(0, 0, 1, 0, 0), CAST);
        faults("copy, i -1", x -> x.copy(1, -1, 1, 0, 1), INDEX);
        faults("copy, j -1", x -> x.copy(1, 0, 1, -1, 1), INDEX);
        faults("copy, n -1: no SIZE", x -> x.copy(1, 0, 1, 0, -1), INDEX);
        faults("copy, least n", x -> x.copy(1, 0, 1, 0, LEAST), INDEX);
        faults("copy, i beyond", x -> x.copy(1, 2, 1, 0, 2), INDEX);
        faults("copy, j beyond", x -> x.copy(1, 0, 1, 2, 2), INDEX);
        faults("copy, n beyond", x -> x.copy(1, 0, 1, 0, 4), INDEX);
        faults("copy none, i behind the end", x -> x.copy(1, 4, 1, 0, 0), INDEX);
        faults("copy none, j behind the end", x -> x.copy(1, 0, 1, 4, 0), INDEX);
        faults("copy none, i -1", x -> x.copy(1, -1, 1, 0, 0), INDEX);
        faults("copy none, j -1", x -> x.copy(1, 0, 1, -1, 0), INDEX);
        faults("copy, most of all", x -> x.copy(1, MOST, 1, MOST, MOST), INDEX);
        faults("copy, most n", x -> x.copy(1, 1, 1, 1, MOST), INDEX);
    }

    private static void bodiesAreRefused() {
        unknown("tell of HOUSE 3", x -> x.tell(3), STAYS);
        unknown("tell of HOUSE -1", x -> x.tell(-1), STAYS);
        unknown("rent of HOUSE 3", x -> x.rent(3), STAYS);
        unknown("rent of HOUSE -1", x -> x.rent(-1), STAYS);
        unknown("as of HOUSE 3, kind 3", x -> x.as(3, 3), 0);
        unknown("as of HOUSE -1", x -> x.as(-1, 0), 0);
        outside("as kind 3", x -> x.as(2, 3), 0);
        outside("as kind -1", x -> x.as(2, -1), 0);
        faults("a HOUSE as CHIMNEY", x -> x.as(0, 1), CAST);
        faults("a HOUSE as TOWER", x -> x.as(0, 2), CAST);
        faults("a CHIMNEY as TOWER", x -> x.as(1, 2), CAST);
    }

    /** Ahead of any LAND; the fault there is a SIZE. */
    private static void none(String what, ToLongFunction<SeenNumbers> call, long want, int fault) {
        SeenNumbers x = empty();
        Due.due(what + " without LAND", call.applyAsLong(x), want);
        Due.due("fault() after: " + what + " without LAND", x.fault(), fault);
        Due.holds("nothing is another after: " + what + " without LAND", stateOf(x).equals(stateOf(empty())));
    }

    private static void withoutLand() {
        none("ofCell", x -> x.ofCell(0, 0), SeenNumbers.UNKNOWN, SIZE);
        none("ofHouse", x -> x.ofHouse(0, 0), SeenNumbers.UNKNOWN, SIZE);
        none("ofTree", x -> x.ofTree(0, 0), SeenNumbers.UNKNOWN, SIZE);
        none("times", x -> x.times(0, 9, 0), SeenNumbers.STATE, SIZE);
        none("times of YEAR 31", x -> x.times(31, 9, 0), SeenNumbers.OUTSIDE, SIZE);
        none("wall", x -> x.wall(0, 10), SeenNumbers.UNKNOWN, SIZE);
        none("floors", x -> x.floors(0, 10), SeenNumbers.UNKNOWN, SIZE);
        none("fell", x -> x.fell(0, true), SeenNumbers.UNKNOWN, SIZE);
        none("see", x -> x.see(0, 1), SeenNumbers.UNKNOWN, SIZE);
        none("number", x -> x.number(0), SeenNumbers.UNKNOWN, SIZE);
        none("having", x -> x.having(0), SeenNumbers.STATE, SIZE);
        none("having 8", x -> x.having(8), SeenNumbers.OUTSIDE, SIZE);
        none("alone", x -> x.alone(), SeenNumbers.STATE, SIZE);
        none("letter", x -> x.letter(7, 0), SeenNumbers.STATE, SIZE);
        none("letter to 8", x -> x.letter(8, 0), SeenNumbers.OUTSIDE, SIZE);
        none("letter, seen by 8", x -> x.letter(0, 8), SeenNumbers.OUTSIDE, SIZE);
        none("mean 0", x -> x.mean(0), SeenNumbers.LOST, SIZE);
        none("mean 1", x -> x.mean(1), SeenNumbers.LOST, SIZE);
        none("walled", x -> x.walled(0, 8), SeenNumbers.UNKNOWN, SIZE);
        none("raised", x -> x.raised(0, 8), SeenNumbers.UNKNOWN, SIZE);
        none("felling", x -> x.felling(0, 8), SeenNumbers.UNKNOWN, SIZE);
        none("fresh", x -> x.fresh(0, 0, 2), SeenNumbers.UNKNOWN, SIZE);
        none("free", x -> x.free(1, 0), SeenNumbers.LOST, SIZE);
        none("change", x -> x.change(0), SeenNumbers.UNKNOWN, SIZE);
        none("reading", x -> x.reading(0, 31, 8), SeenNumbers.UNKNOWN, SIZE);
        none("back 0", x -> x.back(0), 0, SIZE);
        none("back 1", x -> x.back(1), SeenNumbers.OUTSIDE, SIZE);
        none("fogs", x -> x.fogs(), SeenNumbers.STATE, SIZE);
        none("stood", x -> x.stood(0), SeenNumbers.STATE, SIZE);
        none("stood, what 2", x -> x.stood(2), SeenNumbers.OUTSIDE, SIZE);
        none("tell", x -> x.tell(0), SeenNumbers.UNKNOWN, SIZE);
        none("rent", x -> x.rent(0), SeenNumbers.UNKNOWN, SIZE);
        none("as", x -> x.as(0, 3), SeenNumbers.UNKNOWN, 0);
        for (int what = 0; what < 7; what++) {
            int which = what;
            none("many " + what, x -> x.many(which), 0, SIZE);
        }
        none("many 7", x -> x.many(7), SeenNumbers.OUTSIDE, SIZE);
    }
}
