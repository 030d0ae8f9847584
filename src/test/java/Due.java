import java.util.Arrays;

/** What the tests share: answers that are due, lands by their texts, sets. */
final class Due {
    private static int wrong = 0;

    private Due() {
    }

    static void due(String call, long got, long want) {
        if (got != want) {
            wrong++;
            System.out.println(call + " answered " + got + ", due is " + want);
        }
    }

    static void holds(String what, boolean is) {
        if (!is) {
            wrong++;
            System.out.println("it does not hold: " + what);
        }
    }

    static void end(Class<?> test) {
        System.out.println(test.getName() + ": " + (wrong == 0 ? "all as due" : wrong + " not as due"));
        if (wrong != 0) {
            System.exit(1);
        }
    }

    /** Puts a text on a SHEET of ints and takes the land from there. */
    static int take(SeenNumbers x, String text) {
        x.sheet(0, 2, text.length());
        for (int i = 0; i < text.length(); i++) {
            x.put(0, i, text.charAt(i));
        }
        return x.land(0, 2, 0, text.length());
    }

    static SeenNumbers landOf(String text) {
        SeenNumbers x = new SeenNumbers();
        int cells = take(x, text);
        holds(text + " is taken, not " + cells, cells > 0);
        return x;
    }

    static int set(int... members) {
        return Arrays.stream(members).map(k -> 1 << k).reduce(0, (a, b) -> a | b);
    }
}
