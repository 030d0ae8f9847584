/** The sentences of "## Terms" that name a boundary, one by one: what is just inside, what just outside. */
final class TermsTest {
    private static final String LETTERS = "hcrt";

    private TermsTest() {
    }

    public static void main(String[] args) {
        highAndWide();
        groundDigits();
        tallDigits();
        everyOtherCode();
        codesThatWereDigitsIfCut();
        theNinthHouse();
        theNinthTree();
        justEndsTooSoon();
        goesOnTooLong();
        numberedByCells();
        tallHouses();
        tallTrees();
        tallWalls();
        fogs();
        asHighOrHigher();
        onlyCellsStraightBetween();
        noCellBetween();
        theirOwnTops();
        numbersFromNoneToSeven();
        aloneOrNot();
        letters();
        Due.end(TermsTest.class);
    }

    private static void fault(String what, String text, int place) {
        Due.due(what, Due.take(new SeenNumbers(), text), -100 - place);
    }

    private static String flat(int high, int wide) {
        return "n" + high + wide + (";" + "0.".repeat(wide)).repeat(high);
    }

    /** HIGH 1 .. 5, WIDE 2 .. 6. */
    private static void highAndWide() {
        for (int high = 0; high <= 9; high++) {
            for (int wide = 0; wide <= 9; wide++) {
                String told = high + " high, " + wide + " wide";
                boolean isHigh = 1 <= high && high <= 5;
                boolean isWide = 2 <= wide && wide <= 6;
                SeenNumbers x = new SeenNumbers();
                int first = "n".length();
                int want = !isHigh ? -100 - first : !isWide ? -100 - first - 1 : high * wide;
                Due.due(told, takeHeadAndCells(x, high, wide), want);
                Due.due(told + ": WIDE", x.many(1), want > 0 ? wide : 0);
            }
        }
    }

    /** A text of more than 100 codes fits no SHEET; its head is wrong by then. */
    private static int takeHeadAndCells(SeenNumbers x, int high, int wide) {
        String text = flat(high, wide);
        return Due.take(x, text.substring(0, Math.min(100, text.length())));
    }

    private static void groundDigits() {
        for (int g = 0; g <= 9; g++) {
            SeenNumbers x = Due.landOf("n12;" + g + ".0.");
            Due.due("GROUND " + g, x.ofCell(0, 0), g);
            Due.due("TOP of GROUND " + g, x.ofCell(0, 1), g);
        }
        fault("GROUND by the code ahead of 0", "n12;/.0.", 4);
        fault("GROUND by the code behind 9", "n12;:.0.", 4);
        fault("GROUND of the last CELL", "n12;0.:.", 6);
    }

    private static void tallDigits() {
        for (char letter : LETTERS.toCharArray()) {
            for (int tall = 1; tall <= 9; tall++) {
                SeenNumbers x = Due.landOf("n12;0" + letter + tall + "0.");
                int got = letter == 't' ? x.ofTree(0, 1) : x.ofHouse(0, 2);
                Due.due(letter + " so TALL at first", got, tall);
            }
            fault(letter + " 0 TALL", "n12;0" + letter + "00.", 6);
            fault(letter + " TALL by the code behind 9", "n12;0" + letter + ":0.", 6);
            fault(letter + " without a digit", "n12;0" + letter + "0.0.", 6);
            fault(letter + " ahead of a sign", "n12;0" + letter + ".0.", 6);
        }
    }

    private static void everyOtherCode() {
        for (int code = 0; code < 128; code++) {
            String c = String.valueOf((char) code);
            if (code != 'n') {
                fault("code " + code + " for n", c + "12;0.0.", 0);
            }
            if (code != ';') {
                fault("code " + code + " for ;", "n12" + c + "0.0.", 3);
            }
            if (!".hcrt".contains(c)) {
                fault("code " + code + " for a sign", "n12;0" + c + "10.", 5);
            }
            if (code < '0' || code > '9') {
                fault("code " + code + " for a digit", "n12;" + c + ".0.", 4);
            }
        }
    }

    /** Codes that bytes were cut from are other codes; those of a row of bytes are below 0. */
    private static void codesThatWereDigitsIfCut() {
        fault("code 110 and 256", (char) (110 + 256) + "12;0.0.", 0);
        SeenNumbers x = new SeenNumbers();
        String text = "n12;0.0.";
        x.sheet(0, 0, text.length());
        for (int i = 0; i < text.length(); i++) {
            x.put(0, i, text.charAt(i) + 256);
        }
        Due.due("a row of bytes cuts as it is put, not as it is read", x.land(0, 0, 0, text.length()), 2);
        x.put(0, 7, '.' + 128);
        Due.due("a byte below 0", x.land(0, 0, 0, text.length()), -107);
        x.sheet(1, 2, text.length());
        for (int i = 0; i < text.length(); i++) {
            x.put(1, i, text.charAt(i) + 65536);
        }
        Due.due("ints are not cut", x.land(1, 2, 0, text.length()), -100);
    }

    private static String eight(char letter) {
        String cell = "0" + letter + "1";
        return "n33;" + cell.repeat(3) + ";" + cell.repeat(3) + ";" + cell.repeat(2);
    }

    private static void theNinthHouse() {
        String eight = eight('h');
        Due.due("eight HOUSES", Due.take(new SeenNumbers(), eight + "0."), 9);
        for (char letter : "hcr".toCharArray()) {
            fault("a ninth HOUSE, " + letter, eight + "0" + letter + "1", eight.length() + 1);
            fault("a ninth HOUSE, " + letter + ", with a wrong digit", eight + "0" + letter + "0", eight.length() + 1);
            fault("a ninth HOUSE, " + letter + ", where the text ends", eight + "0" + letter, eight.length() + 1);
            fault("a ninth HOUSE behind eight " + letter, eight(letter) + "0h1", eight.length() + 1);
        }
        Due.due("a TREE behind eight HOUSES", Due.take(new SeenNumbers(), eight + "0t1"), 9);
        fault("the GROUND of a ninth one is fine", eight + "0", eight.length() + 1);
    }

    private static void theNinthTree() {
        String eight = eight('t');
        Due.due("eight TREES", Due.take(new SeenNumbers(), eight + "0."), 9);
        fault("a ninth TREE", eight + "0t1", eight.length() + 1);
        fault("a ninth TREE with a wrong digit", eight + "0t0", eight.length() + 1);
        for (char letter : "hcr".toCharArray()) {
            Due.due("a HOUSE behind eight TREES", Due.take(new SeenNumbers(), eight + "0" + letter + "1"), 9);
        }
        String both = "n44;" + "0h1".repeat(4) + ";" + "0t1".repeat(4) + ";" + "0h1".repeat(4) + ";";
        Due.due("eight of both", Due.take(new SeenNumbers(), both + "0t1".repeat(4)), 16);
        fault("a ninth HOUSE ahead of all TREES", both + "0h1", both.length() + 1);
    }

    private static void justEndsTooSoon() {
        String text = "n22;0.1h2;3t40.";
        for (int n = 0; n < text.length(); n++) {
            fault("the first " + n + " codes", text.substring(0, n), n);
        }
        Due.due("all of them", Due.take(new SeenNumbers(), text), 4);
    }

    private static void goesOnTooLong() {
        String text = "n12;0.0.";
        for (String more : new String[] {".", ";", "0", "n", ";0.0.", text}) {
            fault("behind the TEXT: " + more, text + more, text.length());
        }
        fault("a CELL more in a row", "n22;0.0.0.;0.0.", 8);
        fault("a CELL less in a row", "n22;0.;0.0.", 6);
    }

    private static void numberedByCells() {
        SeenNumbers x = Due.landOf("n23;0t10r20t3;0h40t50c6");
        int[] houses = {1, 3, 5};
        int[] trees = {0, 2, 4};
        for (int k = 0; k < 3; k++) {
            Due.due("CELL of HOUSE " + k, x.ofHouse(k, 1), houses[k]);
            Due.due("what is on its CELL", x.ofCell(houses[k], 2), 10 + k);
            Due.due("CELL of TREE " + k, x.ofTree(k, 0), trees[k]);
            Due.due("what is on its CELL", x.ofCell(trees[k], 2), 20 + k);
        }
        Due.due("kind of HOUSE 0", x.ofHouse(0, 0), 2);
        Due.due("kind of HOUSE 1", x.ofHouse(1, 0), 0);
        Due.due("kind of HOUSE 2", x.ofHouse(2, 0), 1);
    }

    private static void tallHouses() {
        SeenNumbers x = Due.landOf("n13;0h99c99r9");
        int[][] byLaw = {{9, 9, 12}, {9, 10, 13}};
        for (int law = 0; law <= 1; law++) {
            x.times(0, 9, law);
            for (int h = 0; h < 3; h++) {
                for (int floors = 0; floors <= 9; floors++) {
                    x.floors(h, floors);
                    String told = "HOUSE " + h + " with " + floors + " FLOORS by LAW " + law;
                    Due.due(told, x.ofHouse(h, 3), byLaw[law][h] + floors);
                    Due.due("TOP of " + told, x.ofCell(h, 1), byLaw[law][h] + floors + (h == 0 ? 0 : 9));
                }
            }
        }
    }

    private static void tallTrees() {
        SeenNumbers x = Due.landOf("n12;2t90t1");
        int[] more = {0, 0, 1, 1, 2, 2, 3, 3, 4, 4, 5, 5, 6, 6, 7, 7, 8, 8, 9, 9, 10, 10, 11, 11, 12, 12, 13, 13, 14, 14, 15};
        for (int year = 0; year <= 30; year++) {
            x.times(year, 9, year % 2);
            Due.due("a TREE in YEAR " + year, x.ofTree(0, 2), 9 + more[year]);
            Due.due("its TOP", x.ofCell(0, 1), 11 + more[year]);
            x.fell(0, true);
            Due.due("it FELLED, in YEAR " + year, x.ofTree(0, 2), 0);
            Due.due("its TOP then", x.ofCell(0, 1), 2);
            x.fell(0, false);
        }
        x.times(1, 9, 0);
        Due.due("years back, it is as low as it was", x.ofTree(1, 2), 1);
    }

    private static void tallWalls() {
        SeenNumbers x = Due.landOf("n12;9.0.");
        for (int v = 0; v <= 9; v++) {
            Due.due("the WALL that was", x.wall(0, v), Math.max(0, v - 1));
            Due.due("TOP with a WALL of " + v, x.ofCell(0, 1), 9 + v);
            Due.due("GROUND with a WALL of " + v, x.ofCell(0, 0), 9);
        }
        x.times(30, 9, 1);
        Due.due("a WALL in YEAR 30 by LAW 1", x.ofCell(0, 1), 18);
    }

    private static void apart(SeenNumbers x, int h, int other, int cells) {
        for (int fog = 1; fog <= 9; fog++) {
            x.times(0, fog, 0);
            int want = fog >= cells ? 1 : 0;
            Due.due("HOUSES " + h + " and " + other + ", " + cells + " apart in FOG " + fog, x.see(h, other), want);
            Due.due("and the other way", x.see(other, h), want);
        }
    }

    /** The greater of rows and columns is 1 .. 5 on the largest land. */
    private static void fogs() {
        SeenNumbers x = Due.landOf("n56;0h50.0.0.0.0h5;0.0.0h10.0.0.;0.0.0.0.0.0.;0.0.0.0.0h10.;0h50h10.0.0.0h5");
        apart(x, 0, 1, 5);
        apart(x, 0, 4, 4);
        apart(x, 0, 6, 5);
        apart(x, 4, 6, 5);
        apart(x, 4, 5, 1);
        apart(x, 3, 6, 1);
        apart(x, 0, 2, 2);
        apart(x, 1, 2, 3);
        apart(x, 1, 3, 3);
        apart(x, 0, 5, 4);
    }

    /** The line of two HOUSES, and of the TOPS between them each just below it, on it and above it. */
    private static void line(int from, int to, int... there) {
        int steps = there.length + 1;
        for (int m = 1; m < steps; m++) {
            int below = there[m - 1];
            boolean isWhole = (to - from) * m % steps == 0;
            alongIt(from, to, steps, m, below, 1);
            alongIt(from, to, steps, m, below + 1, 0);
            if (isWhole) {
                Due.due("the line meets a whole height", from + (to - from) * m / steps, below + 1);
            }
        }
    }

    private static void alongIt(int from, int to, int steps, int m, int top, int want) {
        StringBuilder row = new StringBuilder("n1").append(steps + 1).append(";0h").append(from);
        StringBuilder column = new StringBuilder("n").append(steps + 1).append("2;0h").append(from).append("9.");
        for (int k = 1; k < steps; k++) {
            row.append(k == m ? top : 0).append('.');
            column.append(';').append(k == m ? top : 0).append(".9.");
        }
        row.append("0h").append(to);
        column.append(";0h").append(to).append("9.");
        seeEachOther(row.toString(), want);
        if (steps < 5) {
            seeEachOther(column.toString(), want);
        }
    }

    private static void seeEachOther(String text, int want) {
        SeenNumbers x = Due.landOf(text);
        Due.due("see(0, 1) of " + text, x.see(0, 1), want);
        Due.due("see(1, 0) of " + text, x.see(1, 0), want);
    }

    /** Told for each line: the greatest whole height below it at each step. */
    private static void asHighOrHigher() {
        line(3, 3, 2);
        line(3, 4, 3);
        line(4, 3, 3);
        line(3, 5, 3);
        line(1, 8, 3, 5);
        line(8, 1, 5, 3);
        line(2, 8, 3, 5);
        line(1, 2, 1, 1, 1);
        line(9, 8, 8, 8, 8);
        line(1, 9, 2, 4, 6);
        line(1, 3, 1, 1, 2);
        line(3, 1, 2, 1, 1);
        line(5, 5, 4, 4, 4, 4);
        line(4, 5, 4, 4, 4, 4);
        line(2, 9, 3, 4, 6, 7);
        line(9, 2, 7, 6, 4, 3);
    }

    /** All CELLS but those straight between are 9 high. */
    private static void onlyCellsStraightBetween() {
        seeEachOther("n33;0h19.9.;9.0.9.;9.9.0h1", 1);
        seeEachOther("n33;0h19.9.;9.1.9.;9.9.0h1", 0);
        seeEachOther("n53;0h19.9.;9.9.9.;9.0.9.;9.9.9.;9.9.0h1", 1);
        seeEachOther("n53;0h19.9.;9.9.9.;9.1.9.;9.9.9.;9.9.0h1", 0);
        seeEachOther("n35;9.9.9.9.0h1;9.9.0.9.9.;0h19.9.9.9.", 1);
        seeEachOther("n35;9.9.9.9.0h1;9.9.1.9.9.;0h19.9.9.9.", 0);
        seeEachOther("n44;0h19.9.9.;9.0.9.9.;9.9.0.9.;9.9.9.0h1", 1);
        seeEachOther("n44;0h19.9.9.;9.1.9.9.;9.9.0.9.;9.9.9.0h1", 0);
        seeEachOther("n44;0h19.9.9.;9.0.9.9.;9.9.1.9.;9.9.9.0h1", 0);
        seeEachOther("n55;9.9.9.9.0h1;9.9.9.0.9.;9.9.0.9.9.;9.0.9.9.9.;0h19.9.9.9.", 1);
        seeEachOther("n55;9.9.9.9.0h1;9.9.9.0.9.;9.9.0.9.9.;9.1.9.9.9.;0h19.9.9.9.", 0);
        seeEachOther("n12;0h10h1", 1);
    }

    /** Rows and columns of which 1 is the greatest M: no CELL can be IN THE WAY. */
    private static void noCellBetween() {
        seeEachOther("n22;0h19.;9.0h1", 1);
        seeEachOther("n23;0h19.9.;9.9.0h1", 1);
        seeEachOther("n32;9.0h1;9.9.;0h19.", 1);
        seeEachOther("n34;0h19.9.9.;9.9.9.9.;9.9.9.0h1", 1);
        seeEachOther("n54;9.9.9.0h1;9.9.9.9.;9.9.9.9.;9.9.9.9.;0h19.9.9.", 1);
        seeEachOther("n56;0h19.9.9.9.9.;9.9.9.9.9.9.;9.9.9.9.9.9.;9.9.9.9.9.9.;9.9.9.9.9.0h1", 1);
    }

    /** m is above 0 and below M: how high the two stand is never IN THE WAY of themselves. */
    private static void theirOwnTops() {
        seeEachOther("n12;0h19h9", 1);
        seeEachOther("n13;0h10.9h9", 1);
        seeEachOther("n13;9h90.0h1", 1);
        SeenNumbers x = Due.landOf("n14;0h10h10.0h9");
        Due.due("behind the far one nothing counts", x.see(0, 1), 1);
    }

    private static void numbersFromNoneToSeven() {
        SeenNumbers x = Due.landOf("n33;0h10h10h1;0h10h10h1;0h10h10.");
        Due.due("the most others there can be", x.number(4), 7);
        Due.due("who has 7", x.having(7), Due.set(4));
        x = Due.landOf("n12;0h10.");
        Due.due("none", x.number(0), 0);
        Due.due("who has 0", x.having(0), Due.set(0));
    }

    private static void aloneOrNot() {
        Due.due("two alike", Due.landOf("n12;0h10h1").alone(), 0);
        Due.due("one by itself", Due.landOf("n12;0.0h1").alone(), Due.set(0));
        Due.due("no HOUSE", Due.landOf("n12;0.0t1").alone(), 0);
        Due.due("one of three", Due.landOf("n13;0h10h10h1").alone(), Due.set(1));
        Due.due("three of three numbers", Due.landOf("n16;0h10h10h19.0h10.").alone(), Due.set(1, 3));
    }

    private static void letters() {
        SeenNumbers x = Due.landOf("n16;0h10h10h19.0h10h1");
        Due.due("HOUSES of 1 that one of 2 sees", x.letter(1, 2), Due.set(0, 2));
        Due.due("HOUSES of 2 that one of 1 sees", x.letter(2, 1), Due.set(1));
        Due.due("of 1 that one of 1 sees", x.letter(1, 1), Due.set(3, 4));
        Due.due("of 2, which cannot see itself", x.letter(2, 2), 0);
        Due.due("of a number none has", x.letter(7, 1), 0);
        Due.due("seen by a number none has", x.letter(1, 7), 0);
        Due.due("without HOUSES", Due.landOf("n12;0.0.").letter(0, 0), 0);
    }
}
