/** Promises 10 to 15: who sees whom, numbers, sets of houses, letters, the mean. */
final class NumbersTest {
    // numbers 1, 2, 1, 1, 1: a row of three, ground of 9, a pair
    private static final String THREE_AND_TWO = "n16;0h10h10h19.0h10h1";

    private NumbersTest() {
    }

    public static void main(String[] args) {
        linesAlongRowsAndColumns();
        slantedLines();
        whatIsInTheWay();
        fog();
        law();
        seeRefuses();
        numbers();
        sets();
        letters();
        means();
        Due.end(NumbersTest.class);
    }

    /** Whether the only two houses of a land see each other, asked both ways. */
    private static void pair(String text, int want) {
        SeenNumbers x = Due.landOf(text);
        Due.due("see(0, 1) of " + text, x.see(0, 1), want);
        Due.due("see(1, 0) of " + text, x.see(1, 0), want);
        Due.due("number(0) of " + text, x.number(0), want);
        Due.due("number(1) of " + text, x.number(1), want);
    }

    private static void linesAlongRowsAndColumns() {
        pair("n12;0h10h9", 1);
        pair("n15;0h10.0.0.0h1", 1);
        pair("n15;0h10.1.0.0h1", 0);
        pair("n15;0h11.0.0.0h1", 0);
        pair("n15;0h10.0.1.0h1", 0);
        pair("n52;0h10.;0.9.;0.9.;0.9.;0h19.", 1);
        pair("n52;0h10.;0.9.;1.9.;0.9.;0h19.", 0);
        // the line rises from 3 to 4: 3 and a quarter, a half, three quarters
        pair("n15;0h33.0.0.0h4", 1);
        pair("n15;0h34.0.0.0h4", 0);
        pair("n15;0h30.3.0.0h4", 1);
        pair("n15;0h30.4.0.0h4", 0);
        pair("n15;0h30.0.3.0h4", 1);
        pair("n15;0h30.0.4.0h4", 0);
        // from 2 to 6 it is 3, 4, 5 there
        pair("n15;0h22.3.4.0h6", 1);
        pair("n15;0h23.0.0.0h6", 0);
        pair("n15;0h20.4.0.0h6", 0);
        pair("n15;0h20.0.5.0h6", 0);
        // and the same falling
        pair("n15;0h64.3.2.0h2", 1);
        pair("n15;0h65.0.0.0h2", 0);
        pair("n15;0h60.0.3.0h2", 0);
    }

    private static void slantedLines() {
        pair("n33;0h10.0.;0.0.0.;0.0.0h1", 1);
        pair("n33;0h10.0.;0.1.0.;0.0.0h1", 0);
        pair("n33;0h19.9.;9.0.9.;9.9.0h1", 1);
        pair("n33;9.9.0h1;9.0.9.;0h19.9.", 1);
        pair("n33;0.0.0h1;0.1.0.;0h10.0.", 0);
        // one row, two columns: no CELL lies straight between
        pair("n23;0h19.9.;9.9.0h1", 1);
        pair("n23;9.9.0h1;0h19.9.", 1);
        // two rows, four columns: one does
        pair("n35;0h19.9.9.9.;9.9.0.9.9.;9.9.9.9.0h1", 1);
        pair("n35;0h10.0.0.0.;0.0.1.0.0.;0.0.0.0.0h1", 0);
        pair("n53;9.9.0h1;9.9.9.;9.0.9.;9.9.9.;0h19.9.", 1);
        pair("n53;0.0.0h1;0.0.0.;0.1.0.;0.0.0.;0h10.0.", 0);
        // four rows, four columns: three do
        pair("n55;0h39.9.9.9.;9.3.9.9.9.;9.9.3.9.9.;9.9.9.3.9.;9.9.9.9.0h4", 1);
        pair("n55;0h30.0.0.0.;0.0.0.0.0.;0.0.0.0.0.;0.0.0.4.0.;0.0.0.0.0h4", 0);
    }

    private static void whatIsInTheWay() {
        pair("n13;0h30t20h3", 1);
        pair("n13;0h30t30h3", 0);
        pair("n13;0h31t20h3", 0);
        SeenNumbers x = Due.landOf("n13;0h30t20h3");
        x.times(1, 9, 0);
        Due.due("in YEAR 1", x.see(0, 1), 1);
        x.times(2, 9, 0);
        Due.due("in YEAR 2", x.see(0, 1), 0);
        x.fell(0, true);
        Due.due("with the TREE felled", x.see(0, 1), 1);
        x = Due.landOf("n13;0h31.0h3");
        x.wall(1, 1);
        Due.due("over a WALL", x.see(0, 1), 1);
        x.wall(1, 2);
        Due.due("behind a WALL", x.see(0, 1), 0);
        x.floors(1, 1);
        Due.due("over it from FLOORS of the other", x.see(0, 1), 1);
        x = Due.landOf("n13;0h30h20h3");
        Due.due("over a HOUSE", x.see(0, 2), 1);
        x.floors(1, 1);
        Due.due("behind a HOUSE with FLOORS", x.see(0, 2), 0);
        Due.due("behind a TOWER", Due.landOf("n13;0h40r10h4").see(0, 2), 0);
        Due.due("over a CHIMNEY", Due.landOf("n13;0h40c30h4").see(0, 2), 1);
    }

    private static void fog() {
        SeenNumbers x = Due.landOf("n56;0h10.0.0.0.0h1;0.0.0.0.0.0.;0.0.0.0.0.0.;0.0.0.0.0.0.;0.0.0h10.0.0.");
        // 0 and 1 are 5 apart, 0 and 2 are 4 (rows), 1 and 2 are 4 (rows)
        int[][] due = {{9, 2, 2}, {5, 2, 1}, {4, 1, 2}, {3, 0, 0}, {1, 0, 0}};
        for (int[] d : due) {
            x.times(0, d[0], 0);
            Due.due("number(0) in FOG " + d[0], x.number(0), d[0] >= 5 ? 2 : d[0] >= 4 ? 1 : 0);
            Due.due("number(2) in FOG " + d[0], x.number(2), d[0] >= 4 ? 2 : 0);
            Due.due("see(0, 1) in FOG " + d[0], x.see(0, 1), d[0] >= 5 ? 1 : 0);
        }
        x = Due.landOf("n25;0h10.0.0h10.;0.0.0.0.0.");
        x.times(0, 2, 0);
        Due.due("columns 3 apart in FOG 2", x.see(0, 1), 0);
        x.times(0, 3, 0);
        Due.due("columns 3 apart in FOG 3", x.see(0, 1), 1);
        x = Due.landOf("n12;0h10h1");
        x.times(0, 1, 0);
        Due.due("next to each other in FOG 1", x.see(0, 1), 1);
    }

    private static void law() {
        SeenNumbers x = Due.landOf("n13;0h30c20h3");
        Due.due("over a CHIMNEY by law 0", x.number(0), 2);
        x.times(0, 9, 1);
        Due.due("behind a CHIMNEY by law 1", x.number(0), 1);
        x = Due.landOf("n13;0c33.0r1");
        Due.due("from a CHIMNEY to a TOWER by law 0", x.number(0), 1);
        x = Due.landOf("n13;0c34.0r1");
        Due.due("not over 4 by law 0", x.number(0), 0);
        x.times(0, 9, 1);
        Due.due("over 4 by law 1", x.number(0), 1);
        x = Due.landOf("n13;0h30h20h3");
        x.times(0, 9, 1);
        Due.due("over a HOUSE by law 1", x.number(0), 2);
    }

    private static void seeRefuses() {
        SeenNumbers x = new SeenNumbers();
        Due.due("see without LAND", x.see(0, 1), SeenNumbers.UNKNOWN);
        x = Due.landOf("n13;0h10t10h1");
        int[][] unknown = {{0, 0}, {1, 1}, {0, 2}, {2, 0}, {-1, 0}, {0, -1}};
        for (int[] u : unknown) {
            Due.due("see(" + u[0] + ", " + u[1] + ")", x.see(u[0], u[1]), SeenNumbers.UNKNOWN);
        }
        Due.due("number(2)", x.number(2), SeenNumbers.UNKNOWN);
        Due.due("number(-1)", x.number(-1), SeenNumbers.UNKNOWN);
        Due.due("number(0) without LAND", new SeenNumbers().number(0), SeenNumbers.UNKNOWN);
    }

    private static void numbers() {
        SeenNumbers x = Due.landOf(THREE_AND_TWO);
        int[] due = {1, 2, 1, 1, 1};
        for (int h = 0; h < 5; h++) {
            Due.due("number(" + h + ")", x.number(h), due[h]);
        }
        x = Due.landOf("n24;0h10h20h30h4;0h10h20h30h4");
        // all eight: along a row of rising houses each one hides those behind it
        Due.due("a corner of eight", x.number(0), 5);
        x = Due.landOf("n42;0h90h9;0.0.;0.0.;0h90h9");
        Due.due("a corner of four", x.number(0), 3);
    }

    private static void sets() {
        SeenNumbers x = Due.landOf(THREE_AND_TWO);
        Due.due("having(0)", x.having(0), 0);
        Due.due("having(1)", x.having(1), Due.set(0, 2, 3, 4));
        Due.due("having(2)", x.having(2), Due.set(1));
        Due.due("having(7)", x.having(7), 0);
        Due.due("having(8)", x.having(8), SeenNumbers.OUTSIDE);
        Due.due("having(-1)", x.having(-1), SeenNumbers.OUTSIDE);
        Due.due("alone()", x.alone(), Due.set(1));
        x = Due.landOf("n15;0h10h19.0h10.");
        Due.due("having(0) of one by itself", x.having(0), Due.set(2));
        Due.due("alone() with number 0", x.alone(), Due.set(2));
        Due.due("several alone()", Due.landOf("n16;0h10h10h19.0h10.").alone(), Due.set(1, 3));
        x = Due.landOf("n33;0h10h10h1;0h10h10h1;0h10h10.");
        // the midst sees all seven others, nobody else does
        Due.due("having(7) of eight", x.having(7), Due.set(4));
        Due.due("alone() with number 7", x.alone() & Due.set(4), Due.set(4));
        Due.due("one house alone()", Due.landOf("n12;0h10.").alone(), 1);
        x = new SeenNumbers();
        Due.due("having(0) without LAND", x.having(0), SeenNumbers.STATE);
        Due.due("having(8) without LAND", x.having(8), SeenNumbers.OUTSIDE);
        Due.due("alone() without LAND", x.alone(), SeenNumbers.STATE);
    }

    private static void letters() {
        SeenNumbers x = Due.landOf(THREE_AND_TWO);
        Due.due("letter(1, 2) ahead of any other call", x.letter(1, 2), Due.set(0, 2));
        x.times(0, 1, 0);
        x.wall(3, 9);
        x.floors(1, 9);
        Due.due("letter(1, 2), seen as before", x.letter(1, 2), Due.set(0, 2));
        Due.take(x, THREE_AND_TWO);
        Due.due("letter(2, 1)", x.letter(2, 1), Due.set(1));
        Due.due("letter(1, 1)", x.letter(1, 1), Due.set(3, 4));
        Due.due("letter(2, 2)", x.letter(2, 2), 0);
        Due.due("letter(1, 0)", x.letter(1, 0), 0);
        Due.due("letter(7, 7)", x.letter(7, 7), 0);
        x = Due.landOf("n12;0h10h1");
        Due.due("letter(1, 1) of two", x.letter(1, 1), Due.set(0, 1));
        x = Due.landOf("n12;0h10.");
        Due.due("letter(0, 0): none sees itself", x.letter(0, 0), 0);
        int[][] outside = {{8, 0}, {0, 8}, {-1, 0}, {0, -1}};
        for (int[] o : outside) {
            Due.due("letter OUTSIDE", x.letter(o[0], o[1]), SeenNumbers.OUTSIDE);
            Due.due("letter OUTSIDE without LAND", new SeenNumbers().letter(o[0], o[1]), SeenNumbers.OUTSIDE);
        }
        Due.due("letter without LAND", new SeenNumbers().letter(0, 7), SeenNumbers.STATE);
    }

    private static void mean(String text, long upper, long lower) {
        SeenNumbers x = Due.landOf(text);
        Due.due("mean(0) of " + text, x.mean(0), upper);
        Due.due("mean(1) of " + text, x.mean(1), lower);
    }

    private static void means() {
        mean(THREE_AND_TWO, 6, 5);
        mean("n13;0h10h10h1", 4, 3);
        mean("n12;0h10h1", 1, 1);
        mean("n14;0h10h19.0h1", 2, 3);
        mean("n15;0h10h19.0h10.", 2, 3);
        mean("n22;0h10h1;0h10h1", 3, 1);
        mean("n13;0h19.0h1", 0, 1);
        mean("n12;0h10.", 0, 1);
        mean("n12;0t10.", 0, 1);
        mean("n14;0h10h10h10h1", 3, 2);
        SeenNumbers x = Due.landOf("n33;0h10h10h1;0h10h10h1;0h10h10.");
        // three corners see 5 each, four sides 6, the midst 7: 46 of 8
        Due.due("mean(0) of eight", x.mean(0), 23);
        Due.due("mean(1) of eight", x.mean(1), 4);
        Due.take(x, THREE_AND_TWO);
        Due.due("mean(0) of fewer houses then", x.mean(0), 6);
        Due.due("mean(2)", x.mean(2), SeenNumbers.LOST);
        Due.due("mean(-1)", x.mean(-1), SeenNumbers.LOST);
        Due.due("mean(0) without LAND", new SeenNumbers().mean(0), SeenNumbers.LOST);
        Due.due("mean(2) without LAND", new SeenNumbers().mean(2), SeenNumbers.LOST);
    }
}
