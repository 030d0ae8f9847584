import java.util.ArrayList;
import java.util.List;
import java.util.TreeMap;
import java.util.function.IntPredicate;
import java.util.regex.Matcher;
import java.util.regex.Pattern;
import java.util.stream.IntStream;

/**
 * The document once more, by other ways than the program's: texts by patterns, lines by products,
 * what-ifs on copies of the whole land. Its calls bear the names of the program's.
 */
final class Model {
    private static final int UNKNOWN = -1, OUTSIDE = -2, STATE = -3, FULL = -4, NONE = -9;
    private static final long LOST = Long.MIN_VALUE;
    private static final List<Pattern> TEXTS = new ArrayList<>();

    static {
        for (int high = 1; high <= 5; high++) {
            for (int wide = 2; wide <= 6; wide++) {
                TEXTS.add(Pattern.compile("n" + high + wide + "(;([0-9](\\.|[hcrt][1-9])){" + wide + "}){" + high + "}"));
            }
        }
    }

    private record Reading(int house, int year, int number) {
    }

    private static final class Cell {
        int ground;
        int wall;
        char sign = '.';
        int tall;
        int floors;
        boolean felled;

        Cell copied() {
            Cell c = new Cell();
            c.ground = ground;
            c.wall = wall;
            c.sign = sign;
            c.tall = tall;
            c.floors = floors;
            c.felled = felled;
            return c;
        }

        boolean isHouse() {
            return sign == 'h' || sign == 'c' || sign == 'r';
        }
    }

    private static final class World {
        int wide;
        int year;
        int fog = 9;
        int law;
        final List<Cell> cells = new ArrayList<>();

        World copied() {
            World w = new World();
            w.wide = wide;
            w.year = year;
            w.fog = fog;
            w.law = law;
            cells.forEach(c -> w.cells.add(c.copied()));
            return w;
        }

        List<Integer> places(boolean houses) {
            return IntStream.range(0, cells.size())
                .filter(c -> houses ? cells.get(c).isHouse() : cells.get(c).sign == 't').boxed().toList();
        }

        int tall(Cell c) {
            return switch (c.sign) {
                case 'h' -> c.tall + c.floors;
                case 'c' -> c.tall + c.floors + law;
                case 'r' -> c.tall + c.floors + law + 3;
                case 't' -> c.felled ? 0 : c.tall + (year - year % 2) / 2;
                default -> c.wall;
            };
        }

        int top(int c) {
            return cells.get(c).ground + tall(cells.get(c));
        }

        /** A third cell is straight between, if its way from a is a part of the way from a to b. */
        boolean sees(int a, int b) {
            int rows = b / wide - a / wide;
            int columns = b % wide - a % wide;
            if (Math.abs(rows) > fog || Math.abs(columns) > fog) {
                return false;
            }
            int whole = rows * rows + columns * columns;
            for (int c = 0; c < cells.size(); c++) {
                int r = c / wide - a / wide;
                int s = c % wide - a % wide;
                int part = r * rows + s * columns;
                boolean between = r * columns == s * rows && part > 0 && part < whole;
                if (between && (top(c) - top(a)) * whole >= (top(b) - top(a)) * part) {
                    return false;
                }
            }
            return true;
        }

        int numberAt(int cell) {
            return (int) places(true).stream().filter(o -> o != cell && sees(cell, o)).count();
        }

        int number(int h) {
            return numberAt(places(true).get(h));
        }

        Cell house(int h) {
            return cells.get(places(true).get(h));
        }

        Cell tree(int t) {
            return cells.get(places(false).get(t));
        }

        int houses() {
            return places(true).size();
        }

        int trees() {
            return places(false).size();
        }

        int setOfHouses(IntPredicate which) {
            return IntStream.range(0, houses()).filter(which).map(h -> 1 << h).sum();
        }

        boolean isEmpty(int c) {
            return cells.get(c).sign == '.';
        }
    }

    private final List<Reading> readings = new ArrayList<>();
    private final TreeMap<Integer, Number[]> rows = new TreeMap<>();
    private World world;
    private int trace;
    private int fault;

    private int failing(int which) {
        fault = which;
        return -10 - which;
    }

    private static int laneOf(Number[] row) {
        return row instanceof Byte[] ? 0 : row instanceof Short[] ? 1 : 2;
    }

    private static Number cut(int lane, int v) {
        if (lane == 0) {
            return (byte) v;
        }
        return lane == 1 ? (Number) (short) v : (Number) v;
    }

    private static boolean runs(Number[] row, int i, int n) {
        return i >= 0 && n >= 0 && (long) i + n <= row.length;
    }

    private static boolean goesOn(String text) {
        boolean few = text.chars().filter(c -> c == 't').count() <= 8
            && text.chars().filter(c -> c == 'h' || c == 'c' || c == 'r').count() <= 8;
        return few && TEXTS.stream().anyMatch(p -> {
            Matcher m = p.matcher(text);
            return m.matches() || m.hitEnd();
        });
    }

    public int land(int sheet, int lane, int i, int n) {
        fault = 0;
        if (sheet < 0 || sheet > 3) {
            return UNKNOWN;
        }
        if (lane < 0 || lane > 2) {
            return OUTSIDE;
        }
        Number[] row = rows.get(sheet);
        if (row != null && laneOf(row) != lane) {
            return failing(2);
        }
        if (row == null) {
            return failing(1);
        }
        if (n < 0) {
            return failing(4);
        }
        if (!runs(row, i, n)) {
            return failing(3);
        }
        StringBuilder text = new StringBuilder();
        for (int k = i; k < i + n; k++) {
            int code = row[k].intValue();
            text.append(code >= 0 && code < 128 ? (char) code : '?');
            if (!goesOn(text.toString())) {
                return -100 - (k - i);
            }
        }
        if (TEXTS.stream().noneMatch(p -> p.matcher(text).matches())) {
            return -100 - n;
        }
        world = new World();
        world.wide = text.charAt(2) - '0';
        Matcher m = Pattern.compile("([0-9])(\\.|([hcrt])([1-9]))").matcher(text.substring(3));
        while (m.find()) {
            Cell c = new Cell();
            c.ground = Integer.parseInt(m.group(1));
            if (m.group(3) != null) {
                c.sign = m.group(3).charAt(0);
                c.tall = Integer.parseInt(m.group(4));
            }
            world.cells.add(c);
        }
        readings.clear();
        return world.cells.size();
    }

    private boolean noCell(int c) {
        return world == null || c < 0 || c >= world.cells.size();
    }

    private boolean noHouse(int h) {
        return world == null || h < 0 || h >= world.houses();
    }

    private boolean noTree(int t) {
        return world == null || t < 0 || t >= world.trees();
    }

    public int ofCell(int c, int what) {
        if (noCell(c)) {
            return UNKNOWN;
        }
        if (what < 0 || what > 2) {
            return OUTSIDE;
        }
        int h = world.places(true).indexOf(c);
        int t = world.places(false).indexOf(c);
        int there = h >= 0 ? 10 + h : t >= 0 ? 20 + t : 0;
        return new int[] {world.cells.get(c).ground, world.top(c), there}[what];
    }

    public int ofHouse(int h, int what) {
        if (noHouse(h)) {
            return UNKNOWN;
        }
        if (what < 0 || what > 4) {
            return OUTSIDE;
        }
        Cell c = world.house(h);
        return new int[] {"hcr".indexOf(c.sign), world.places(true).get(h), c.tall, world.tall(c), c.floors}[what];
    }

    public int ofTree(int t, int what) {
        if (noTree(t)) {
            return UNKNOWN;
        }
        if (what < 0 || what > 3) {
            return OUTSIDE;
        }
        Cell c = world.tree(t);
        return new int[] {world.places(false).get(t), c.tall, world.tall(c), c.felled ? 1 : 0}[what];
    }

    public int times(int year, int fog, int law) {
        if (year < 0 || year > 30 || fog < 1 || fog > 9 || law < 0 || law > 1) {
            return OUTSIDE;
        }
        if (world == null) {
            return STATE;
        }
        boolean same = world.year == year && world.fog == fog && world.law == law;
        world.year = year;
        world.fog = fog;
        world.law = law;
        return same ? 0 : 1;
    }

    public int wall(int c, int v) {
        if (noCell(c)) {
            return UNKNOWN;
        }
        if (v < 0 || v > 9) {
            return OUTSIDE;
        }
        if (!world.isEmpty(c)) {
            return STATE;
        }
        int was = world.cells.get(c).wall;
        world.cells.get(c).wall = v;
        return was;
    }

    public int floors(int h, int v) {
        if (noHouse(h)) {
            return UNKNOWN;
        }
        if (v < 0 || v > 9) {
            return OUTSIDE;
        }
        int was = world.house(h).floors;
        world.house(h).floors = v;
        return was;
    }

    public int fell(int t, boolean is) {
        if (noTree(t)) {
            return UNKNOWN;
        }
        boolean was = world.tree(t).felled;
        world.tree(t).felled = is;
        return was == is ? 0 : 1;
    }

    public int see(int h, int other) {
        if (noHouse(h) || noHouse(other) || h == other) {
            return UNKNOWN;
        }
        return world.sees(world.places(true).get(h), world.places(true).get(other)) ? 1 : 0;
    }

    public int number(int h) {
        return noHouse(h) ? UNKNOWN : world.number(h);
    }

    private static boolean noNumber(int n) {
        return n < 0 || n > 7;
    }

    public int having(int n) {
        if (noNumber(n)) {
            return OUTSIDE;
        }
        return world == null ? STATE : world.setOfHouses(h -> world.number(h) == n);
    }

    public int alone() {
        if (world == null) {
            return STATE;
        }
        return world.setOfHouses(h -> IntStream.range(0, world.houses())
            .noneMatch(o -> o != h && world.number(o) == world.number(h)));
    }

    public int letter(int n, int seenBy) {
        if (noNumber(n) || noNumber(seenBy)) {
            return OUTSIDE;
        }
        if (world == null) {
            return STATE;
        }
        return world.setOfHouses(h -> world.number(h) == n && IntStream.range(0, world.houses())
            .anyMatch(o -> world.number(o) == seenBy && see(h, o) == 1));
    }

    public long mean(int which) {
        if (which < 0 || which > 1 || world == null) {
            return LOST;
        }
        int houses = world.houses();
        if (houses == 0) {
            return which;
        }
        int all = IntStream.range(0, houses).map(world::number).sum();
        for (int lower = 1; lower <= houses; lower++) {
            if (all * lower % houses == 0) {
                return which == 0 ? all * lower / houses : lower;
            }
        }
        return LOST;
    }

    public int walled(int h, int n) {
        if (noHouse(h)) {
            return UNKNOWN;
        }
        if (noNumber(n)) {
            return OUTSIDE;
        }
        return IntStream.range(100, 1000).filter(k -> k % 100 < world.cells.size() && world.isEmpty(k % 100))
            .filter(k -> {
                World w = world.copied();
                w.cells.get(k % 100).wall = k / 100;
                return w.number(h) == n;
            }).findFirst().orElse(NONE);
    }

    public int raised(int h, int n) {
        if (noHouse(h)) {
            return UNKNOWN;
        }
        if (noNumber(n)) {
            return OUTSIDE;
        }
        return IntStream.rangeClosed(0, 9).filter(v -> {
            World w = world.copied();
            w.house(h).floors = v;
            return w.number(h) == n;
        }).findFirst().orElse(NONE);
    }

    private static World felled(World of, int more) {
        World w = of.copied();
        for (int t = 0; t < w.trees(); t++) {
            w.tree(t).felled |= (more >> t & 1) == 1;
        }
        return w;
    }

    private static boolean standAll(World w, int set) {
        return IntStream.range(0, w.trees()).noneMatch(t -> (set >> t & 1) == 1 && w.tree(t).felled);
    }

    public int felling(int h, int n) {
        if (noHouse(h)) {
            return UNKNOWN;
        }
        if (noNumber(n)) {
            return OUTSIDE;
        }
        return IntStream.range(0, 1 << world.trees()).boxed()
            .sorted((a, b) -> Integer.bitCount(a) * 1000 + a - Integer.bitCount(b) * 1000 - b)
            .filter(set -> standAll(world, set) && felled(world, set).number(h) == n)
            .findFirst().orElse(NONE);
    }

    private World withNew(int c, int tall) {
        World w = world.copied();
        w.cells.get(c).sign = 'h';
        w.cells.get(c).tall = tall;
        return w;
    }

    public int fresh(int c, int tall, int what) {
        if (noCell(c)) {
            return UNKNOWN;
        }
        if (tall < 1 || tall > 9 || what < 0 || what > 1) {
            return OUTSIDE;
        }
        if (!world.isEmpty(c) || world.cells.get(c).wall > 0) {
            return STATE;
        }
        World w = withNew(c, tall);
        if (what == 0) {
            return w.numberAt(c);
        }
        return world.setOfHouses(h -> w.numberAt(world.places(true).get(h)) != world.number(h));
    }

    public long free(int tall, int n) {
        if (tall < 1 || tall > 9 || n < 0 || n > 8 || world == null) {
            return LOST;
        }
        return IntStream.range(0, world.cells.size()).filter(c -> fresh(c, tall, 0) == n).mapToLong(c -> 1L << c).sum();
    }

    public int change(int h) {
        if (noHouse(h)) {
            return UNKNOWN;
        }
        return IntStream.rangeClosed(world.year + 1, 30).filter(y -> {
            World w = world.copied();
            w.year = y;
            return w.number(h) != world.number(h);
        }).findFirst().orElse(NONE);
    }

    public int reading(int h, int year, int n) {
        if (noHouse(h)) {
            return UNKNOWN;
        }
        if (year < 0 || year > 30 || noNumber(n)) {
            return OUTSIDE;
        }
        if (readings.size() == 8) {
            return FULL;
        }
        readings.add(new Reading(h, year, n));
        return readings.size() - 1;
    }

    public int back(int k) {
        if (k < 0 || k > readings.size()) {
            return OUTSIDE;
        }
        readings.subList(readings.size() - k, readings.size()).clear();
        return readings.size();
    }

    private boolean allSo(World in) {
        World w = in.copied();
        return readings.stream().allMatch(r -> {
            w.year = r.year();
            return w.number(r.house()) == r.number();
        });
    }

    public int fogs() {
        if (world == null) {
            return STATE;
        }
        return IntStream.rangeClosed(1, 9).filter(f -> {
            World w = world.copied();
            w.fog = f;
            return allSo(w);
        }).map(f -> 1 << f).sum();
    }

    public int stood(int what) {
        if (what < 0 || what > 1) {
            return OUTSIDE;
        }
        if (world == null) {
            return STATE;
        }
        World all = world.copied();
        all.places(false).forEach(c -> all.cells.get(c).felled = false);
        IntStream sets = IntStream.range(0, 1 << world.trees()).filter(set -> allSo(felled(all, ~set)));
        return what == 0 ? (int) sets.count() : sets.findFirst().orElse(NONE);
    }

    public int sheet(int k, int lane, int n) {
        fault = 0;
        if (k < 0 || k > 3) {
            return UNKNOWN;
        }
        if (lane < 0 || lane > 2 || n > 100) {
            return OUTSIDE;
        }
        if (n < 0) {
            return failing(4);
        }
        Number[] row = lane == 0 ? new Byte[n] : lane == 1 ? new Short[n] : new Integer[n];
        for (int i = 0; i < n; i++) {
            row[i] = cut(lane, 0);
        }
        rows.put(k, row);
        return 1;
    }

    public int lose(int k) {
        if (k < 0 || k > 3) {
            return UNKNOWN;
        }
        return rows.remove(k) == null ? 0 : 1;
    }

    public int put(int k, int i, int v) {
        fault = 0;
        if (k < 0 || k > 3) {
            return UNKNOWN;
        }
        Number[] row = rows.get(k);
        if (row == null) {
            return failing(1);
        }
        if (i < 0 || i >= row.length) {
            return failing(3);
        }
        row[i] = cut(laneOf(row), v);
        return 1;
    }

    public long cell(int k, int i, int lane) {
        fault = 0;
        if (k < 0 || k > 3 || lane < 0 || lane > 2) {
            return LOST;
        }
        Number[] row = rows.get(k);
        fault = row == null ? 1 : laneOf(row) != lane ? 2 : i < 0 || i >= row.length ? 3 : 0;
        return fault == 0 ? row[i].longValue() : LOST;
    }

    public int copy(int k, int i, int other, int j, int n) {
        fault = 0;
        if (k < 0 || k > 3 || other < 0 || other > 3) {
            return UNKNOWN;
        }
        Number[] from = rows.get(k);
        Number[] to = rows.get(other);
        if (from == null || to == null) {
            return failing(1);
        }
        if (laneOf(from) != laneOf(to)) {
            return failing(2);
        }
        if (!runs(from, i, n) || !runs(to, j, n)) {
            return failing(3);
        }
        Number[] asTheyWere = from.clone();
        for (int m = 0; m < n; m++) {
            to[j + m] = asTheyWere[i + m];
        }
        return n;
    }

    private void leave(int... bodies) {
        for (int body : bodies) {
            trace = trace * 31 + body;
        }
    }

    public int tell(int h) {
        if (noHouse(h)) {
            return UNKNOWN;
        }
        Cell c = world.house(h);
        if (c.sign == 'h') {
            leave(1);
            return c.tall;
        }
        if (c.sign == 'c') {
            leave(2, 1);
            return c.tall + 100;
        }
        leave(3, 2, 1, 1);
        return 2 * c.tall + 100;
    }

    public int rent(int h) {
        if (noHouse(h)) {
            return UNKNOWN;
        }
        boolean tower = world.house(h).sign == 'r';
        leave(tower ? 5 : 4);
        return tower ? 70 : h;
    }

    public int as(int h, int kind) {
        fault = 0;
        if (noHouse(h)) {
            return UNKNOWN;
        }
        if (kind < 0 || kind > 2) {
            return OUTSIDE;
        }
        return "hcr".indexOf(world.house(h).sign) < kind ? failing(2) : 1;
    }

    public int trace() {
        return trace;
    }

    public int fault() {
        return fault;
    }

    public int many(int what) {
        if (what < 0 || what > 6) {
            return OUTSIDE;
        }
        if (world == null) {
            return 0;
        }
        return new int[] {world.cells.size(), world.wide, world.houses(), world.trees(), readings.size(), world.year,
            world.fog}[what];
    }
}
