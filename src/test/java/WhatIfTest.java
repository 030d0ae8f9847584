/** Promises 16 to 20: the lowest wall, the least floors, the fewest trees, a new house. */
final class WhatIfTest {
    private static final String TREES_BETWEEN = "n34;0h10t20t20h1;0t20.0.0.;0h10.0.0.";

    private WhatIfTest() {
    }

    public static void main(String[] args) {
        lowestWall();
        leastFloors();
        fewestFelled();
        theyRefuseAlike();
        numberOfNew();
        changedByNew();
        newIsRefused();
        cellsForNew();
        nothingIsChanged();
        Due.end(WhatIfTest.class);
    }

    private static void lowestWall() {
        SeenNumbers x = Due.landOf("n15;0h10.0.0.0h1");
        Due.due("the least CELL", x.walled(0, 0), 101);
        Due.due("no WALL of 0", x.walled(0, 1), SeenNumbers.NONE);
        x = Due.landOf("n25;0h10.0.0.0h1;0.0.0.0.0.");
        Due.due("a WALL that is in nobody's way", x.walled(0, 1), 105);
        x = Due.landOf("n25;0.0.0.0.0.;0h10.0.0.0h1");
        Due.due("on CELL 0", x.walled(0, 1), 100);
        x = Due.landOf("n15;0h20.0.1.0h2");
        Due.due("the lowest, not the least CELL", x.walled(0, 0), 103);
        x = Due.landOf("n15;0h90.0.0.0h9");
        Due.due("the highest", x.walled(1, 0), 901);
        x.floors(0, 1);
        Due.due("a slope: 9 at the lower end", x.walled(1, 0), SeenNumbers.NONE);
        x = Due.landOf("n13;0h20.0h2");
        x.wall(1, 5);
        Due.due("in place of one that is there", x.walled(0, 1), 101);
        Due.due("one that is there, lower", x.walled(0, 0), 201);
        Due.due("which stays", x.wall(1, 5), 5);
        x = Due.landOf("n13;0h10t10h1");
        x.fell(0, true);
        Due.due("no WALL on a felled TREE", x.walled(0, 0), SeenNumbers.NONE);
        Due.due("nor there for another NUMBER", x.walled(0, 1), SeenNumbers.NONE);
        Due.due("where no CELL has nothing", Due.landOf("n12;0h10h1").walled(0, 1), SeenNumbers.NONE);
        x = Due.landOf("n14;0h10.0.0h1");
        x.wall(1, 9);
        Due.due("in place of it the lowest one is in the way, too", x.walled(0, 0), 101);
        Due.due("nor is any of 1 .. 9 lower than the line of 1", x.walled(0, 1), SeenNumbers.NONE);
        x = Due.landOf("n14;0h20.0.0h2");
        x.wall(1, 9);
        Due.due("low in its place", x.walled(0, 1), 101);
        for (int tall = 1; tall <= 9; tall++) {
            String text = "n13;0h" + tall + "0.0h" + tall;
            Due.due("the lowest WALL in the way of " + tall, Due.landOf(text).walled(0, 0), 100 * tall + 1);
        }
        x = Due.landOf("n56;0h10h19.9.9.9.;9.9.9.9.9.9.;9.9.9.9.9.9.;9.9.9.9.9.9.;9.9.9.9.0h10.");
        x.times(0, 1, 0);
        Due.due("of no matter where: the least CELL", x.walled(2, 0), 102);
    }

    private static void leastFloors() {
        SeenNumbers x = Due.landOf("n15;0h10.2.0.0h1");
        Due.due("none needed", x.raised(0, 0), 0);
        Due.due("three", x.raised(0, 1), 3);
        Due.due("the other one", x.raised(1, 1), 3);
        x.floors(0, 5);
        Due.due("in place of those it has", x.raised(0, 1), 3);
        Due.due("none in place of five", x.raised(0, 0), 0);
        Due.due("which stay", x.floors(0, 5), 5);
        Due.due("nine", Due.landOf("n13;0h15.0h1").raised(0, 1), 9);
        Due.due("ten were too many", Due.landOf("n13;0h16.0h1").raised(0, 1), SeenNumbers.NONE);
        for (int g = 2; g <= 8; g++) {
            Due.due("over " + g, Due.landOf("n13;0h1" + g + ".0h" + g).raised(0, 1), g);
        }
        x = Due.landOf("n13;0h40.0h1");
        x.wall(1, 4);
        x.floors(1, 9);
        Due.due("FLOORS of the other stay", x.raised(0, 1), 0);
        x.floors(1, 0);
        Due.due("without them", x.raised(0, 1), 4);
        Due.due("on GROUND", Due.landOf("n13;2h15.0h1").raised(0, 1), 7);
        x = Due.landOf("n13;0c12.0h1");
        Due.due("a CHIMNEY by law 0", x.raised(0, 1), 3);
        x.times(0, 9, 1);
        Due.due("a CHIMNEY by law 1", x.raised(0, 1), 2);
        x = Due.landOf("n13;0r15.0h1");
        Due.due("a TOWER by law 0", x.raised(0, 1), 6);
        x.times(0, 9, 1);
        Due.due("a TOWER by law 1", x.raised(0, 1), 5);
    }

    private static void fewestFelled() {
        SeenNumbers x = Due.landOf("n14;0h10t20t20h1");
        Due.due("none", x.felling(0, 0), 0);
        Due.due("both", x.felling(0, 1), Due.set(0, 1));
        Due.due("none for 2", x.felling(0, 2), SeenNumbers.NONE);
        x.fell(0, true);
        Due.due("one more", x.felling(0, 1), Due.set(1));
        x.fell(1, true);
        Due.due("none more", x.felling(0, 1), 0);
        Due.due("those that are felled stay so", x.felling(0, 0), SeenNumbers.NONE);
        x = Due.landOf(TREES_BETWEEN);
        Due.due("the fewest, not the least set", x.felling(0, 1), Due.set(2));
        Due.due("all", x.felling(0, 2), Due.set(0, 1, 2));
        x.fell(0, true);
        Due.due("now the least set", x.felling(0, 1), Due.set(1));
        x = Due.landOf("n33;0h10t20h1;0t20.0.;0h10.0.");
        Due.due("of several the least set", x.felling(0, 1), Due.set(0));
        Due.due("both for 2", x.felling(0, 2), Due.set(0, 1));
        Due.due("without TREES", Due.landOf("n12;0h10h1").felling(0, 1), 0);
        String six = "n25;0h10t90t90t90h1;0h10t90t90t90h1";
        Due.due("three of six", Due.landOf(six).felling(0, 3), Due.set(0, 1, 2));
        Due.due("three of six, the last ones", Due.landOf(six).felling(2, 3), Due.set(3, 4, 5));
        x = Due.landOf("n33;0.0t10t1;0t10h10t1;0t10t10t1");
        Due.due("none of seven for one by itself", x.felling(0, 0), 0);
        Due.due("nor all of them for more", x.felling(0, 1), SeenNumbers.NONE);
        x = Due.landOf("n26;0t90t90t90t90t90t9;0h10t90t90.0.0h1");
        Due.due("the last two of eight", x.felling(0, 1), Due.set(6, 7));
        x = Due.landOf("n13;0h30t20h3");
        x.times(2, 9, 0);
        Due.due("a TREE of the YEAR", x.felling(0, 1), Due.set(0));
    }

    private static void theyRefuseAlike() {
        SeenNumbers x = Due.landOf("n12;0h10h1");
        int[][] unknown = {{2, 0}, {-1, 0}, {2, 8}};
        for (int[] u : unknown) {
            Due.due("walled UNKNOWN", x.walled(u[0], u[1]), SeenNumbers.UNKNOWN);
            Due.due("raised UNKNOWN", x.raised(u[0], u[1]), SeenNumbers.UNKNOWN);
            Due.due("felling UNKNOWN", x.felling(u[0], u[1]), SeenNumbers.UNKNOWN);
        }
        int[] outside = {8, -1, Integer.MAX_VALUE};
        for (int n : outside) {
            Due.due("walled OUTSIDE", x.walled(0, n), SeenNumbers.OUTSIDE);
            Due.due("raised OUTSIDE", x.raised(0, n), SeenNumbers.OUTSIDE);
            Due.due("felling OUTSIDE", x.felling(0, n), SeenNumbers.OUTSIDE);
        }
        Due.due("walled(0, 7)", x.walled(0, 7), SeenNumbers.NONE);
        Due.due("raised(0, 7)", x.raised(0, 7), SeenNumbers.NONE);
        Due.due("felling(0, 7)", x.felling(0, 7), SeenNumbers.NONE);
        Due.due("walled without LAND", new SeenNumbers().walled(0, 0), SeenNumbers.UNKNOWN);
        Due.due("raised without LAND", new SeenNumbers().raised(0, 0), SeenNumbers.UNKNOWN);
        Due.due("felling without LAND", new SeenNumbers().felling(0, 0), SeenNumbers.UNKNOWN);
    }

    private static void numberOfNew() {
        SeenNumbers x = Due.landOf("n13;0h10.0h1");
        Due.due("between two", x.fresh(1, 1, 0), 2);
        x = Due.landOf("n15;0h10.0.2.0h1");
        Due.due("behind ground of 2", x.fresh(1, 1, 0), 1);
        Due.due("as high as the line over it", x.fresh(1, 2, 0), 1);
        Due.due("over it", x.fresh(2, 4, 0), 2);
        x = Due.landOf("n33;0h10h10h1;0h10.0h1;0h10h10h1");
        Due.due("a ninth HOUSE that sees eight", x.fresh(4, 1, 0), 8);
        x.times(0, 1, 0);
        Due.due("in FOG 1, too", x.fresh(4, 9, 0), 8);
        x = Due.landOf("n14;0h10.0.0.");
        x.times(0, 2, 0);
        Due.due("too far for FOG 2", x.fresh(3, 1, 0), 0);
        Due.due("near enough", x.fresh(2, 1, 0), 1);
        Due.due("without HOUSES", Due.landOf("n12;0.0.").fresh(1, 9, 0), 0);
        Due.due("without HOUSES none is another", Due.landOf("n12;0.0.").fresh(1, 9, 1), 0);
        Due.due("GROUND counts", Due.landOf("n13;0h11.1.").fresh(2, 1, 0), 1);
        Due.due("GROUND counts on the way", Due.landOf("n13;0h11.0.").fresh(2, 1, 0), 0);
    }

    private static void changedByNew() {
        SeenNumbers x = Due.landOf("n13;0h30.0h3");
        Due.due("low between two", x.fresh(1, 2, 1), Due.set(0, 1));
        Due.due("one seen for another", x.fresh(1, 3, 1), 0);
        x.times(0, 9, 1);
        Due.due("a HOUSE has no chimney by law", x.fresh(1, 2, 1), Due.set(0, 1));
        x = Due.landOf("n15;0h10h10.9.0h1");
        Due.due("whom the NEW one is hidden from", x.fresh(2, 1, 1), Due.set(1));
        x = Due.landOf("n15;0h20.0h10.0h2");
        x.times(0, 4, 0);
        Due.due("each has 2", x.having(2), Due.set(0, 1, 2));
        Due.due("in nobody's way", x.fresh(1, 1, 1), Due.set(0, 1, 2));
        Due.due("seen by all, but 0 loses both others", x.fresh(1, 2, 1), Due.set(0));
    }

    private static void newIsRefused() {
        SeenNumbers x = Due.landOf("n14;0h10.0t10.");
        x.wall(3, 1);
        Due.due("CELL 4", x.fresh(4, 0, 2), SeenNumbers.UNKNOWN);
        Due.due("CELL -1", x.fresh(-1, 1, 0), SeenNumbers.UNKNOWN);
        Due.due("tall 0", x.fresh(0, 0, 0), SeenNumbers.OUTSIDE);
        Due.due("tall 10", x.fresh(1, 10, 0), SeenNumbers.OUTSIDE);
        Due.due("what 2", x.fresh(0, 1, 2), SeenNumbers.OUTSIDE);
        Due.due("what -1", x.fresh(1, 1, -1), SeenNumbers.OUTSIDE);
        Due.due("on a HOUSE", x.fresh(0, 1, 0), SeenNumbers.STATE);
        Due.due("on a TREE", x.fresh(2, 1, 1), SeenNumbers.STATE);
        Due.due("on a WALL", x.fresh(3, 1, 0), SeenNumbers.STATE);
        x.fell(0, true);
        Due.due("on a felled TREE", x.fresh(2, 1, 0), SeenNumbers.STATE);
        x.wall(3, 0);
        Due.due("where a WALL stood", x.fresh(3, 1, 0), 1);
        Due.due("without LAND", new SeenNumbers().fresh(0, 1, 0), SeenNumbers.UNKNOWN);
    }

    private static void cellsForNew() {
        SeenNumbers x = Due.landOf("n15;0h10.0.2.0h1");
        Due.due("free(1, 1)", x.free(1, 1), Due.set(1, 2));
        Due.due("free(1, 2)", x.free(1, 2), Due.set(3));
        Due.due("free(9, 2)", x.free(9, 2), Due.set(1, 2, 3));
        Due.due("free(1, 0)", x.free(1, 0), 0);
        x.wall(3, 1);
        Due.due("not where a WALL stands", x.free(1, 2), 0);
        x = Due.landOf("n33;0h10h10h1;0h10.0h1;0h10h10h1");
        Due.due("free(1, 8)", x.free(1, 8), Due.set(4));
        x = Due.landOf("n56;0.0.0.0.0.0.;0.0.0.0.0.0.;0.0.0.0.0.0.;0.0.0.0.0.0.;0.0.0.0.0t10.");
        Due.due("all CELLS with nothing", x.free(9, 0), (1L << 30) - 1 - (1L << 28));
        Due.due("the last CELL alone", Due.landOf("n12;0h10.").free(1, 1), Due.set(1));
        Due.due("no CELL with nothing", Due.landOf("n12;0h10h1").free(1, 1), 0);
        Due.due("without HOUSES", Due.landOf("n12;0.0.").free(9, 0), Due.set(0, 1));
        Due.due("free(0, 0)", x.free(0, 0), SeenNumbers.LOST);
        Due.due("free(10, 0)", x.free(10, 0), SeenNumbers.LOST);
        Due.due("free(1, -1)", x.free(1, -1), SeenNumbers.LOST);
        Due.due("free(1, 9)", x.free(1, 9), SeenNumbers.LOST);
        Due.due("free without LAND", new SeenNumbers().free(1, 0), SeenNumbers.LOST);
    }

    private static void nothingIsChanged() {
        SeenNumbers x = Due.landOf(TREES_BETWEEN);
        x.walled(0, 0);
        x.raised(0, 2);
        x.felling(0, 2);
        x.fresh(5, 9, 0);
        x.fresh(5, 9, 1);
        x.free(9, 3);
        Due.due("no FLOORS", x.ofHouse(0, 4), 0);
        Due.due("no TREE felled", x.ofTree(0, 3) + x.ofTree(1, 3) + x.ofTree(2, 3), 0);
        Due.due("no WALL", x.ofCell(5, 1), 0);
        Due.due("no HOUSE more", x.many(2), 3);
        Due.due("number(0)", x.number(0), 0);
        Due.due("number(1)", x.number(1), 1);
    }
}
