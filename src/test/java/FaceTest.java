import java.lang.reflect.Constructor;
import java.lang.reflect.Field;
import java.lang.reflect.Method;
import java.lang.reflect.Modifier;
import java.util.Arrays;
import java.util.Set;
import java.util.TreeSet;
import java.util.stream.Collectors;

/** The public face of the document, and nothing beside it that is not private. */
final class FaceTest {
    private static final String FACE = """
        int land(int, int, int, int)
        int ofCell(int, int)
        int ofHouse(int, int)
        int ofTree(int, int)
        int times(int, int, int)
        int wall(int, int)
        int floors(int, int)
        int fell(int, boolean)
        int see(int, int)
        int number(int)
        int having(int)
        int alone()
        int letter(int, int)
        long mean(int)
        int walled(int, int)
        int raised(int, int)
        int felling(int, int)
        int fresh(int, int, int)
        long free(int, int)
        int change(int)
        int reading(int, int, int)
        int back(int)
        int fogs()
        int stood(int)
        int sheet(int, int, int)
        int lose(int)
        int put(int, int, int)
        long cell(int, int, int)
        int copy(int, int, int, int, int)
        int tell(int)
        int rent(int)
        int as(int, int)
        int trace()
        int fault()
        int many(int)
        """;

    private FaceTest() {
    }

    public static void main(String[] args) {
        Class<?> face = SeenNumbers.class;
        Due.holds("the class is public and final",
            Modifier.isPublic(face.getModifiers()) && Modifier.isFinal(face.getModifiers()));
        constants();
        constructors(face);
        methods(face);
        fields(face);
        classesInside(face);
        Due.end(FaceTest.class);
    }

    private static void constants() {
        Due.due("UNKNOWN", SeenNumbers.UNKNOWN, -1);
        Due.due("OUTSIDE", SeenNumbers.OUTSIDE, -2);
        Due.due("STATE", SeenNumbers.STATE, -3);
        Due.due("FULL", SeenNumbers.FULL, -4);
        Due.due("NONE", SeenNumbers.NONE, -9);
        Due.due("LOST", SeenNumbers.LOST, Long.MIN_VALUE);
    }

    private static void constructors(Class<?> face) {
        Constructor<?>[] made = face.getDeclaredConstructors();
        Due.due("how many constructors", made.length, 1);
        Due.due("their parameters", made[0].getParameterCount(), 0);
        Due.holds("the constructor is public", Modifier.isPublic(made[0].getModifiers()));
    }

    private static String told(Method m) {
        return m.getReturnType() + " " + m.getName() + Arrays.stream(m.getParameterTypes())
            .map(Class::getName).collect(Collectors.joining(", ", "(", ")"));
    }

    private static void methods(Class<?> face) {
        Set<String> due = new TreeSet<>(FACE.lines().toList());
        Set<String> names = due.stream().map(m -> m.substring(m.indexOf(' ') + 1, m.indexOf('(')))
            .collect(Collectors.toSet());
        Set<String> found = new TreeSet<>();
        for (Method m : face.getDeclaredMethods()) {
            boolean isPrivate = Modifier.isPrivate(m.getModifiers());
            if (!isPrivate) {
                Due.holds(m.getName() + " is public and of an object",
                    Modifier.isPublic(m.getModifiers()) && !Modifier.isStatic(m.getModifiers()));
                found.add(told(m));
            }
            Due.holds(m.getName() + " is no private one with a public name",
                !isPrivate || !names.contains(m.getName()));
        }
        Due.holds("the methods are those of the face: " + found, found.equals(due));
    }

    private static void fields(Class<?> face) {
        Set<String> found = new TreeSet<>();
        for (Field f : face.getDeclaredFields()) {
            if (!Modifier.isPrivate(f.getModifiers())) {
                found.add(Modifier.toString(f.getModifiers()) + " " + f.getType() + " " + f.getName());
            }
        }
        Set<String> due = new TreeSet<>();
        for (String name : new String[] {"UNKNOWN", "OUTSIDE", "STATE", "FULL", "NONE"}) {
            due.add("public static final int " + name);
        }
        due.add("public static final long LOST");
        Due.holds("the fields are those of the face: " + found, found.equals(due));
    }

    private static void fewFields(Class<?> some) {
        long fields = Arrays.stream(some.getDeclaredFields()).filter(f -> !Modifier.isStatic(f.getModifiers())).count();
        Due.holds(some.getName() + " has few fields, not " + fields, fields <= 20);
    }

    private static void classesInside(Class<?> face) {
        fewFields(face);
        for (Class<?> inside : face.getDeclaredClasses()) {
            fewFields(inside);
            int m = inside.getModifiers();
            Due.holds(inside.getName() + " is static, not public or protected",
                Modifier.isStatic(m) && !Modifier.isPublic(m) && !Modifier.isProtected(m));
        }
    }
}
