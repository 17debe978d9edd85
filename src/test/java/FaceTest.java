import java.lang.reflect.Constructor;
import java.lang.reflect.Field;
import java.lang.reflect.Method;
import java.lang.reflect.Modifier;
import java.nio.file.Files;
import java.nio.file.Path;
import java.util.ArrayList;
import java.util.Arrays;
import java.util.Collections;
import java.util.List;
import java.util.stream.Collectors;

/** The public face of the document, and those rules of LANGUAGE.md that a look at the source shows. */
public final class FaceTest {
    private static final String FACE = """
        public int append(int, int, int, int, int) throws IllegalStateException
        public int load(int) throws IllegalArgumentException
        public int errorPosition()
        public int count(int) throws IllegalArgumentException
        public int part(int, int) throws IllegalArgumentException
        public int number(int, int, int, int, int) throws IllegalArgumentException
        public long code(int, boolean) throws IllegalArgumentException
        public int pulse(int, int) throws IllegalArgumentException
        public int hear(int, boolean, long) throws IllegalArgumentException, IllegalStateException
        public int bit(int) throws IndexOutOfBoundsException
        public int frame(int, int) throws IndexOutOfBoundsException, IllegalArgumentException
        public int frameBit(int, int) throws IndexOutOfBoundsException
        public int votes(int)
        public int favourite() throws NoSuchElementException
        public int block(int, int) throws IndexOutOfBoundsException, IllegalArgumentException
        public int assembled()
        public int dissenting() throws NoSuchElementException
        public int weakest()
        public int fix(int, int) throws IndexOutOfBoundsException, IllegalArgumentException
        public long clock(int) throws IllegalArgumentException, NoSuchElementException
        public float deviation() throws NoSuchElementException
        public long estimate() throws NoSuchElementException
        public int set(int, int) throws IllegalArgumentException
        public int discipline() throws NoSuchElementException, IllegalStateException
        public int forget()
        public int writeTime(int) throws IllegalArgumentException
        public int writtenByte(int) throws IndexOutOfBoundsException
        public int undo() throws IllegalStateException
        public int save(int) throws IndexOutOfBoundsException
        public int restore(int) throws IndexOutOfBoundsException, IllegalStateException
        """;

    public static void main(String[] args) throws Exception {
        face();
        constants();
        rules();
        Check.end("FaceTest");
    }

    private static void face() {
        Class<RadioClock> face = RadioClock.class;
        Check.that("the class is public and final", Modifier.toString(face.getModifiers()), "public final");
        List<String> due = new ArrayList<>(Arrays.asList(FACE.strip().split("\n")));
        List<String> found = new ArrayList<>();
        List<String> names = new ArrayList<>();
        for (Method method : face.getDeclaredMethods()) {
            if (!Modifier.isPrivate(method.getModifiers())) {
                found.add(describe(method));
                names.add(method.getName());
            }
        }
        Collections.sort(due);
        Collections.sort(found);
        Check.that("methods that are not private", found, due);
        for (Method method : face.getDeclaredMethods()) {
            if (Modifier.isPrivate(method.getModifiers())) {
                Check.that("a private method bears the name " + method.getName(), names.contains(method.getName()), false);
            }
        }
        List<String> constructors = new ArrayList<>();
        for (Constructor<?> constructor : face.getDeclaredConstructors()) {
            constructors.add(constructor.toString());
        }
        Check.that("constructors", constructors, List.of("public RadioClock()"));
    }

    private static String describe(Method method) {
        String head = Modifier.toString(method.getModifiers()) + " " + method.getReturnType().getName() + " " + method.getName();
        String parameters = Arrays.stream(method.getParameterTypes()).map(Class::getName).collect(Collectors.joining(", "));
        String thrown = Arrays.stream(method.getExceptionTypes()).map(Class::getSimpleName).collect(Collectors.joining(", "));
        return head + "(" + parameters + ")" + (thrown.isEmpty() ? "" : " throws " + thrown);
    }

    private static void constants() throws Exception {
        Check.that("NONE", RadioClock.NONE, -1);
        Check.that("SYNTAX_ERROR", RadioClock.SYNTAX_ERROR, -2);
        Check.that("VALUE_ERROR", RadioClock.VALUE_ERROR, -3);
        List<String> found = new ArrayList<>();
        for (Field field : RadioClock.class.getDeclaredFields()) {
            int modifiers = field.getModifiers();
            if (!Modifier.isPrivate(modifiers)) {
                found.add(Modifier.toString(modifiers) + " " + field.getType() + " " + field.getName());
            }
            if (Modifier.isStatic(modifiers)) {
                Check.that(field.getName() + " is final", Modifier.isFinal(modifiers), true);
            }
        }
        Collections.sort(found);
        Check.that("fields that are not private", found, List.of("public static final int NONE",
            "public static final int SYNTAX_ERROR", "public static final int VALUE_ERROR"));
        for (Class<?> inner : RadioClock.class.getDeclaredClasses()) {
            Check.that(inner + " is private and static", Modifier.isPrivate(inner.getModifiers())
                && Modifier.isStatic(inner.getModifiers()), true);
        }
    }

    private static void rules() throws Exception {
        String source = Files.readString(Path.of("src/main/java/RadioClock.java"));
        for (String banned : List.of("->", "::", "try ", "catch", "finally", "synchronized", "assert ", "Exact(",
                "package ", "System.nanoTime", "System.current", "System.out", "Random", "Thread", "record ",
                "extends RuntimeException", "static {", "import java.util.*", "String.format", "Objects")) {
            Check.that("the source holds " + banned, source.contains(banned), false);
        }
        Check.that("one import", source.split("\nimport ", -1).length + (source.startsWith("import ") ? 1 : 0), 2);
    }
}
