import java.io.IOException;
import java.lang.reflect.Method;
import java.lang.reflect.Modifier;
import java.nio.file.Files;
import java.nio.file.Path;
import java.util.List;
import java.util.stream.Collectors;
import java.util.stream.Stream;

/** README.md: its calls answer what stands beside them, and no call and no test is left out. */
public final class ReadmeTest {
    private static final Check check = new Check();

    public static void main(String[] args) throws IOException {
        itsCalls();
        String page = Files.readString(Path.of("README.md"));
        namesEveryCall(page);
        namesEveryTest(page);
        check.end();
    }

    /** As it stands in README.md. */
    static void tell(RentRiver river, String text) {
        river.end(0);
        for (int from = 0; from < text.length(); from += 20) {
            int[] five = new int[5];
            for (int i = 0; i < 20; i++) {
                int sign = from + i < text.length() ? text.charAt(from + i) : ' ';
                five[i / 4] = five[i / 4] << 8 | sign;
            }
            river.feed(five[0], five[1], five[2], five[3], five[4]);
        }
        river.end(text.length());
    }

    private static void itsCalls() {
        RentRiver river = new RentRiver();
        tell(river, "town mud 2 50 5 100; town oak 3 40 4 60; water 0 20; water 1 30; water 2 9;"
            + "bid mud 0 10; bid oak 0 8; need mud 15; need oak 20; bridge mud 2;"
            + "move 3; fish 10; patience 2;");
        check.due("plain()", river.plain(), 13);
        tell(river, "let 1 oak 12; let 2 mud oak 5; sea 3;");
        check.due("contracts()", river.contracts(), 3);
        check.due("begin()", river.begin(), true);
        check.due("on(3)", river.on(3), 3);
        check.due("let(2, 0)", river.let(2, 0), 0);
        check.due("let(2, 1)", river.let(2, 1), 1);
        check.due("year(2)", river.year(2), 11);
        check.due("town(1, 0)", river.town(1, 0), 20);
        tell(river, "pond > 2 and not shore");
        check.due("sentence()", river.sentence(), 3);
        check.due("said(NONE)", river.said(RentRiver.NONE), 2);
        river.feed(0x00000a00, 0, 0, 0, 0);
        river.end(5);
        check.due("leaks()", river.leaks(), 1);
        check.due("leak(0, 2)", river.leak(0, 2), 3);
        tell(river, "town mud 2 50");
        check.due("plain() of half a row", river.plain(), -14);
        check.due("fault()", river.fault(), 1);
        check.due("count(0) of the plain that stays", river.count(0), 2);
    }

    private static void namesEveryCall(String page) {
        for (Method method : RentRiver.class.getDeclaredMethods()) {
            if (Modifier.isPublic(method.getModifiers())) {
                String name = "`" + method.getName();
                boolean named = page.contains(name + "`") || page.contains(name + "(");
                check.due("README.md names " + method.getName(), named, true);
            }
        }
    }

    private static void namesEveryTest(String page) throws IOException {
        List<String> files;
        try (Stream<Path> all = Files.list(Path.of("src/test/java"))) {
            files = all.map(file -> file.getFileName().toString()).collect(Collectors.toList());
        }
        for (String file : files) {
            String name = file.replace(".java", "");
            check.due("README.md names " + name, page.contains("`" + name + "`"), true);
        }
    }
}
