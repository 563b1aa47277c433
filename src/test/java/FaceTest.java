import java.lang.reflect.Constructor;
import java.lang.reflect.Field;
import java.lang.reflect.Method;
import java.lang.reflect.Modifier;
import java.nio.file.Files;
import java.nio.file.Path;
import java.util.ArrayList;
import java.util.Arrays;
import java.util.List;
import java.util.Set;
import java.util.TreeSet;
import java.util.regex.Pattern;

/** The document's public face, to the letter, and those rules of LANGUAGE.md that a text or a class tells. */
public final class FaceTest {
    private static final String[] METHODS = {
        "int feed(int a, int b, int c, int d, int e)",
        "int town(int n) throws IllegalArgumentException",
        "int fault()",
        "int count(int what) throws NoSuchElementException",
        "int plant(int plant, int what) throws NoSuchElementException",
        "int turn(int plant, int to) throws NoSuchElementException",
        "boolean week(int week)",
        "boolean walk(int order, int begin)",
        "int order()",
        "int smell(int plant, int cell, int hour, int wind) throws NoSuchElementException",
        "int smelt(int sort, int cell, int hour, int wind, int what) throws NoSuchElementException",
        "int mark(int garden, int cell, int hour, int wind) throws NoSuchElementException",
        "int sum(int garden, int wind) throws NoSuchElementException",
        "int winner(int wind, int what) throws NoSuchElementException",
        "int prize(int garden, int wind, int prize) throws NoSuchElementException, IllegalArgumentException",
        "int odds(int garden, int what) throws NoSuchElementException",
        "int best(int garden, int what) throws NoSuchElementException",
        "int rest()",
        "int grow(int garden, int what) throws NoSuchElementException",
        "int fair(int what) throws NoSuchElementException",
        "int nose(int gate, int hour, int sort, int much) throws NoSuchElementException",
        "int forget()",
        "int cases(int i) throws NoSuchElementException",
        "int next(int hour, int what) throws NoSuchElementException",
        "int days(int garden, int seed, int days) throws NoSuchElementException, IllegalArgumentException",
        "void image()",
        "boolean restore()"};
    private static final String[] FORBIDDEN = {"->", "::", "\\bcatch\\b", "\\bfinally\\b", "\\bsynchronized\\b",
        "\\bassert\\b", "\\btry\\b", "Exact\\(", "\\bsuper\\b", "@", "\" \\+", "\\+ \"", "\\bstatic \\{", "\\bSystem\\.(?!arraycopy)",
        "\\bdouble\\b", "\\bfloat\\b", "\\bObject\\b"};

    private static int wrong;

    private static void must(String what, boolean holds) {
        if (!holds) {
            wrong++;
            System.out.println("not so: " + what);
        }
    }

    private static String shape(Method m) {
        List<String> types = new ArrayList<>();
        for (Class<?> type : m.getParameterTypes()) {
            types.add(type.getSimpleName());
        }
        List<String> thrown = new ArrayList<>();
        for (Class<?> type : m.getExceptionTypes()) {
            thrown.add(type.getSimpleName());
        }
        return m.getReturnType().getSimpleName() + " " + m.getName() + "(" + String.join(", ", types) + ")"
            + (thrown.isEmpty() ? "" : " throws " + String.join(", ", thrown));
    }

    private static void face() throws Exception {
        Set<String> due = new TreeSet<>();
        for (String told : METHODS) {
            due.add(told.replaceAll("\\bint [a-z]+(?=[,)])", "int"));
        }
        Set<String> has = new TreeSet<>();
        Set<String> names = new TreeSet<>();
        for (Method m : NoseTown.class.getDeclaredMethods()) {
            if (Modifier.isPublic(m.getModifiers())) {
                has.add(shape(m));
                names.add(m.getName());
            } else {
                must("private: " + m, Modifier.isPrivate(m.getModifiers()));
            }
        }
        must("public methods " + has + " are " + due, has.equals(due));
        for (Field f : NoseTown.class.getDeclaredFields()) {
            must("private: " + f, Modifier.isPrivate(f.getModifiers()) || f.getName().equals("NONE"));
        }
        must("NONE is public", Modifier.isPublic(NoseTown.class.getField("NONE").getModifiers()));
        must("NONE is -1", NoseTown.NONE == -1);
        Constructor<?>[] made = NoseTown.class.getDeclaredConstructors();
        must("one constructor without arguments", made.length == 1 && made[0].getParameterCount() == 0
            && Modifier.isPublic(made[0].getModifiers()));
        int shape = NoseTown.class.getModifiers();
        must("public final class", Modifier.isPublic(shape) && Modifier.isFinal(shape));
        for (Class<?> inside : NoseTown.class.getDeclaredClasses()) {
            inside(inside, names);
        }
        must("at most twelve classes", NoseTown.class.getDeclaredClasses().length <= 11);
    }

    private static void inside(Class<?> type, Set<String> names) {
        must("private static: " + type, Modifier.isPrivate(type.getModifiers()) && Modifier.isStatic(type.getModifiers()));
        long fields = Arrays.stream(type.getDeclaredFields()).filter(f -> !Modifier.isStatic(f.getModifiers())).count();
        must("some twenty fields: " + type, fields <= 20);
        for (Field f : type.getDeclaredFields()) {
            must("static is final: " + f, !Modifier.isStatic(f.getModifiers()) || Modifier.isFinal(f.getModifiers()));
        }
        for (Method m : type.getDeclaredMethods()) {
            must("no public name: " + m, !names.contains(m.getName()));
            must("at most seven parameters: " + m, m.getParameterCount() <= 7);
        }
    }

    private static void text() throws Exception {
        List<String> lines = Files.readAllLines(Path.of("src/main/java/NoseTown.java"));
        for (String line : lines) {
            String code = line.replaceAll("/\\*\\*.*\\*/|//.*", "");
            for (String forbidden : FORBIDDEN) {
                must("without " + forbidden + ": " + line, !Pattern.compile(forbidden).matcher(code).find());
            }
            must("an import of the library's part: " + line, !code.startsWith("import")
                || code.equals("import java.util.Arrays;") || code.equals("import java.util.NoSuchElementException;"));
            must("signs 1 to 127: " + line, line.chars().allMatch(c -> c < 128));
        }
        int length = 0;
        for (String line : lines) {
            length = line.isEmpty() ? 0 : length + 1;
            must("short methods, parted by empty lines: " + line, length <= 60);
        }
    }

    public static void main(String[] args) throws Exception {
        face();
        text();
        System.out.println(wrong == 0 ? "the face is as told" : wrong + " things are not so");
        if (wrong != 0) {
            System.exit(1);
        }
    }
}
