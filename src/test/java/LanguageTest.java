import java.io.IOException;
import java.lang.reflect.Constructor;
import java.lang.reflect.Field;
import java.lang.reflect.Method;
import java.lang.reflect.Modifier;
import java.nio.file.Files;
import java.nio.file.Path;
import java.util.Arrays;
import java.util.List;
import java.util.Set;
import java.util.TreeSet;

/** The face of the document, and those rules of LANGUAGE.md that can be seen from outside. */
public final class LanguageTest {
    private static final Check check = new Check();
    private static final List<String> FACE = Arrays.asList(
        "int feed 5", "boolean end 1", "int plain 0", "int fault 0", "int told 2", "int bid 2",
        "boolean offer 3", "int undo 0", "int water 1", "int contracts 0", "int contract 2",
        "boolean begin 0", "int on 1", "int year 1", "int town 2", "int let 2", "int droughts 0",
        "int cheapest 0", "int plan 1", "boolean take 0", "int rounds 1", "int has 1", "int price 1",
        "int leaks 0", "int leak 2", "int wettest 1", "int enough 1", "int shoresOf 0",
        "int thirsty 0", "int bidsOf 1", "int greatest 1", "int write 0", "int byteAt 1",
        "int worth 1", "int drawn 1", "int shores 3", "int must 2", "int sentence 0", "int said 1",
        "boolean image 1", "boolean restore 1", "int count 1");

    public static void main(String[] args) throws IOException {
        face();
        inside();
        source();
        check.end();
    }

    private static void face() {
        Class<?> type = RentRiver.class;
        check.due("the class is public and final", type.getModifiers(), Modifier.PUBLIC | Modifier.FINAL);
        Set<String> shown = new TreeSet<>();
        for (Method method : type.getDeclaredMethods()) {
            if (!Modifier.isPrivate(method.getModifiers())) {
                boolean ints = Arrays.stream(method.getParameterTypes()).allMatch(p -> p == int.class);
                check.due(method.getName() + " takes ints", ints, true);
                check.due(method.getName() + " is public alone", method.getModifiers(), Modifier.PUBLIC);
                shown.add(method.getReturnType() + " " + method.getName() + " " + method.getParameterCount());
            }
        }
        check.due("the face: " + shown, shown.equals(new TreeSet<>(FACE)), true);
        for (Constructor<?> made : type.getDeclaredConstructors()) {
            check.due("the constructor is public", made.getModifiers(), Modifier.PUBLIC);
            check.due("the constructor takes nothing", made.getParameterCount(), 0);
        }
        for (Field field : type.getDeclaredFields()) {
            boolean none = field.getName().equals("NONE");
            check.due(field.getName() + " is private", Modifier.isPrivate(field.getModifiers()), !none);
        }
    }

    private static void inside() {
        Class<?>[] types = RentRiver.class.getDeclaredClasses();
        check.due("some twelve classes", types.length <= 12, true);
        rules(RentRiver.class);
        for (Class<?> type : types) {
            check.due(type + " is static", Modifier.isStatic(type.getModifiers()), true);
            check.due(type + " is not seen outside",
                type.getModifiers() & (Modifier.PUBLIC | Modifier.PROTECTED), 0);
            rules(type);
        }
    }

    private static void rules(Class<?> type) {
        int fields = 0;
        for (Field field : type.getDeclaredFields()) {
            boolean isStatic = Modifier.isStatic(field.getModifiers());
            fields += isStatic ? 0 : 1;
            check.due(field + " is final if static", !isStatic || Modifier.isFinal(field.getModifiers()), true);
        }
        check.due(type + " has some twenty fields", fields <= 20, true);
        for (Method method : type.getDeclaredMethods()) {
            check.due(method + " takes seven at most", method.getParameterCount() <= 7, true);
            boolean ofFace = type == RentRiver.class && Modifier.isPublic(method.getModifiers());
            boolean named = FACE.stream().anyMatch(f -> f.split(" ")[1].equals(method.getName()));
            check.due(method + " has a name of its own", ofFace || !named, true);
        }
    }

    private static void source() throws IOException {
        String text = Files.readString(Path.of("src/main/java/RentRiver.java"));
        check.due("signs 1 to 127", text.chars().allMatch(c -> c > 0 && c < 128), true);
        String[] never = {"->", "::", "package ", "finally", "synchronized", "assert ", "catch", "try {",
            "static {", "@", "Exact(", "String.", "\" + ", " + \"", "getMessage", "hashCode", "toString",
            "System.out", "Random", "Thread", "nanoTime", "ordinal", "Integer.", "Long."};
        for (String sign : never) {
            check.due("'" + sign + "' in the program", text.contains(sign), false);
        }
        for (String line : text.split("\n")) {
            if (line.startsWith("import ")) {
                check.due(line, line.equals("import java.util.NoSuchElementException;"), true);
            }
            if (line.contains("throw ")) {
                check.due(line.trim(), line.trim().startsWith("throw new NoSuchElementException("), true);
            }
            check.due("a line of a hundred signs at most: " + line, line.length() <= 100, true);
        }
        methodsAreShort(text.split("\n"));
    }

    private static void methodsAreShort(String[] lines) {
        int from = 0;
        for (int i = 0; i < lines.length; i++) {
            boolean begins = lines[i].matches("    (    )?[a-zA-Z].*\\) (throws \\w+ )?\\{");
            from = begins ? i : from;
            if (lines[i].matches("    (    )?\\}")) {
                check.due("sixty lines at most from line " + (from + 1), i - from <= 60 || from == 0, true);
                from = i;
            }
        }
    }
}
