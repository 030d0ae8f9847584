/** Promises 21 to 25: the first year of a change, readings, the fogs and trees by which they are so. */
final class PastTest {
    private static final String TREE_BETWEEN = "n13;0h30t20h3";

    private PastTest() {
    }

    public static void main(String[] args) {
        changes();
        readings();
        fullOfReadings();
        readingsAreRefused();
        takenBack();
        fogs();
        stood();
        Due.end(PastTest.class);
    }

    private static void changes() {
        SeenNumbers x = Due.landOf(TREE_BETWEEN);
        Due.due("the TREE grows into the line", x.change(0), 2);
        x.times(1, 9, 0);
        Due.due("behind YEAR 1", x.change(1), 2);
        Due.due("YEAR stays", x.many(5), 1);
        x.times(2, 9, 0);
        Due.due("behind YEAR 2", x.change(0), SeenNumbers.NONE);
        x.times(30, 9, 0);
        Due.due("behind YEAR 30", x.change(0), SeenNumbers.NONE);
        x.times(0, 9, 0);
        x.fell(0, true);
        Due.due("a felled TREE does not grow", x.change(0), SeenNumbers.NONE);
        x = Due.landOf("n13;0h90t10h9");
        x.floors(0, 7);
        x.floors(1, 7);
        Due.due("in the last YEAR", x.change(0), 30);
        x.floors(1, 8);
        Due.due("in none", x.change(0), SeenNumbers.NONE);
        x.times(29, 9, 0);
        x.floors(1, 7);
        Due.due("the last YEAR is the next one", x.change(0), 30);
        x.times(29, 1, 0);
        Due.due("in FOG 1 nothing changes", x.change(0), SeenNumbers.NONE);
        x = Due.landOf("n14;0h60t50t30h6");
        Due.due("the first of two TREES that grow into the line", x.change(0), 2);
        x.fell(0, true);
        Due.due("the other one", x.change(0), 6);
        x = Due.landOf("n13;0h10t90h1");
        Due.due("hidden for ever", x.change(0), SeenNumbers.NONE);
        x = Due.landOf("n33;0h10t10h1;0.0.0.;0h10.0.");
        x.floors(0, 1);
        x.floors(1, 1);
        Due.due("from 2 to 1", x.change(0), 2);
        Due.due("nobody lost", x.change(2), SeenNumbers.NONE);
        Due.due("change(3)", x.change(3), SeenNumbers.UNKNOWN);
        Due.due("change(-1)", x.change(-1), SeenNumbers.UNKNOWN);
        Due.due("change without LAND", new SeenNumbers().change(0), SeenNumbers.UNKNOWN);
    }

    private static void readings() {
        SeenNumbers x = Due.landOf(TREE_BETWEEN);
        for (int k = 0; k < 8; k++) {
            Due.due("reading " + k, x.reading(k % 2, 30 * (k % 2), 7 * (k % 2)), k);
            Due.due("how many then", x.many(4), k + 1);
        }
        Due.due("a ninth one", x.reading(0, 0, 0), SeenNumbers.FULL);
        Due.due("a ninth one of no HOUSE", x.reading(2, 0, 0), SeenNumbers.UNKNOWN);
        Due.due("a ninth one in YEAR 31", x.reading(0, 31, 0), SeenNumbers.OUTSIDE);
        Due.due("eight stay", x.many(4), 8);
    }

    private static void fullOfReadings() {
        SeenNumbers x = Due.landOf(TREE_BETWEEN);
        for (int k = 0; k < 8; k++) {
            x.reading(0, k, k < 2 ? 1 : 0);
        }
        Due.due("FULL", x.reading(0, 0, 0), SeenNumbers.FULL);
        Due.due("a reading that is FULL is none", x.fogs(), 1020);
        Due.due("the eight are so, if the TREE stood", x.stood(1), 1);
        Due.due("one back", x.back(1), 7);
        Due.due("room for one", x.reading(1, 30, 1), 7);
        Due.due("which counts", x.stood(0), 0);
        Due.due("FULL again", x.reading(1, 30, 1), SeenNumbers.FULL);
        Due.due("all eight back", x.back(8), 0);
        Due.due("none is left to take back", x.back(1), SeenNumbers.OUTSIDE);
        Due.due("the first one's number", x.reading(1, 30, 7), 0);
    }

    private static void readingsAreRefused() {
        SeenNumbers x = Due.landOf(TREE_BETWEEN);
        Due.due("HOUSE 2", x.reading(2, 31, 8), SeenNumbers.UNKNOWN);
        Due.due("HOUSE -1", x.reading(-1, 0, 0), SeenNumbers.UNKNOWN);
        Due.due("YEAR 31", x.reading(0, 31, 0), SeenNumbers.OUTSIDE);
        Due.due("YEAR -1", x.reading(0, -1, 0), SeenNumbers.OUTSIDE);
        Due.due("NUMBER 8", x.reading(0, 0, 8), SeenNumbers.OUTSIDE);
        Due.due("NUMBER -1", x.reading(0, 0, -1), SeenNumbers.OUTSIDE);
        Due.due("none is kept", x.many(4), 0);
        Due.due("without LAND", new SeenNumbers().reading(0, 0, 0), SeenNumbers.UNKNOWN);
    }

    private static void takenBack() {
        SeenNumbers x = Due.landOf(TREE_BETWEEN);
        Due.due("none of none", x.back(0), 0);
        Due.due("one of none", x.back(1), SeenNumbers.OUTSIDE);
        x.reading(0, 0, 1);
        x.reading(0, 0, 0);
        x.reading(0, 0, 0);
        Due.due("they contradict", x.fogs(), 0);
        Due.due("four of three", x.back(4), SeenNumbers.OUTSIDE);
        Due.due("-1", x.back(-1), SeenNumbers.OUTSIDE);
        Due.due("least", x.back(Integer.MIN_VALUE), SeenNumbers.OUTSIDE);
        Due.due("none of three", x.back(0), 3);
        Due.due("two of three", x.back(2), 1);
        Due.due("the first one is left", x.fogs(), 1020);
        Due.due("the next one's number", x.reading(0, 0, 1), 1);
        Due.due("all", x.back(2), 0);
        Due.due("without LAND", new SeenNumbers().back(0), 0);
    }

    private static void fogs() {
        SeenNumbers x = Due.landOf(TREE_BETWEEN);
        Due.due("all FOGS without READINGS", x.fogs(), 1022);
        x.reading(0, 1, 1);
        Due.due("seen in YEAR 1", x.fogs(), 1020);
        x.times(2, 5, 0);
        Due.due("the READING's YEAR, not this one", x.fogs(), 1020);
        Due.due("FOG stays", x.many(6), 5);
        Due.due("YEAR stays", x.many(5), 2);
        x.reading(1, 2, 0);
        Due.due("and not seen in YEAR 2", x.fogs(), 1020);
        x.fell(0, true);
        Due.due("all else as it is: felled", x.fogs(), 0);
        x.fell(0, false);
        x.back(2);
        x.reading(0, 1, 0);
        Due.due("not seen in YEAR 1", x.fogs(), 2);
        x = Due.landOf("n15;0h10.0h30.0h1");
        x.times(0, 3, 0);
        x.reading(1, 9, 2);
        Due.due("seen by the one in the midst", x.fogs(), 1020);
        x = Due.landOf("n15;0h30.0h10.0h3");
        x.reading(0, 0, 1);
        Due.due("one seen, another not: FOGS 2 and 3", x.fogs(), Due.set(2, 3));
        Due.due("without LAND", new SeenNumbers().fogs(), SeenNumbers.STATE);
    }

    private static void stood() {
        SeenNumbers x = Due.landOf("n33;0h10t20h1;0t20.0.;0h10.0t1");
        Due.due("all sets without READINGS", x.stood(0), 8);
        Due.due("the first of all", x.stood(1), 0);
        x.reading(0, 0, 0);
        Due.due("both stood", x.stood(0), 2);
        Due.due("the first set with both", x.stood(1), Due.set(0, 1));
        x.back(1);
        x.reading(0, 4, 1);
        Due.due("one of them stood", x.stood(0), 4);
        Due.due("the first such set", x.stood(1), Due.set(0));
        x.fell(0, true);
        x.fell(2, true);
        Due.due("whatever is felled now", x.stood(0), 4);
        Due.due("whatever is felled now, the first", x.stood(1), Due.set(0));
        Due.due("the felled one stays so", x.ofTree(0, 3), 1);
        Due.due("the standing one stays so", x.ofTree(1, 3), 0);
        x.times(0, 1, 0);
        Due.due("none in FOG 1", x.stood(0), 0);
        Due.due("no first one", x.stood(1), SeenNumbers.NONE);
        x = Due.landOf(TREE_BETWEEN);
        x.reading(0, 1, 1);
        Due.due("the TREE is low in YEAR 1", x.stood(0), 2);
        x.reading(0, 2, 0);
        Due.due("and high in YEAR 2", x.stood(0), 1);
        Due.due("so it stood", x.stood(1), 1);
        Due.due("what 2", x.stood(2), SeenNumbers.OUTSIDE);
        Due.due("what -1", x.stood(-1), SeenNumbers.OUTSIDE);
        Due.due("what 2 without LAND", new SeenNumbers().stood(2), SeenNumbers.OUTSIDE);
        Due.due("without LAND", new SeenNumbers().stood(0), SeenNumbers.STATE);
        x = Due.landOf("n13;0h30t20h3");
        x.reading(0, 0, 1);
        x.number(0);
        x.times(0, 1, 0);
        Due.due("none in FOG 1, asked first", x.stood(1), SeenNumbers.NONE);
        x = Due.landOf("n12;0h10h1");
        Due.due("without TREES", x.stood(0), 1);
        x.reading(0, 0, 0);
        Due.due("without TREES, not so", x.stood(0), 0);
    }
}
