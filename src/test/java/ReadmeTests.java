import java.io.IOException;
import java.lang.reflect.Method;
import java.lang.reflect.Modifier;
import java.nio.file.Files;
import java.nio.file.Path;
import java.util.ArrayList;
import java.util.List;

/**
 * What README.md says of the class: the calls of its example give the answers that stand beside them,
 * and each call of the face is told as the document writes it, with the exceptions that it declares.
 */
public final class ReadmeTests {
    private static final Path README = Path.of("README.md");
    private static final Path DOCUMENT = Path.of("../shared/DOC.md");

    private static int wrong = 0;
    private static int looked = 0;

    public static void main(String[] args) throws IOException {
        List<String> readme = Files.readAllLines(README);
        exampleAnswersAsItSays(exampleOf(readme));
        eachCallIsTold(itemsOf(readme), Files.readString(DOCUMENT));
        System.out.println(looked + " sayings of README.md looked at, " + wrong + " not as due");
        if (wrong != 0) {
            System.exit(1);
        }
    }

    private static void expect(boolean holds, String otherwise) {
        looked++;
        if (!holds) {
            wrong++;
            System.out.println(otherwise);
        }
    }

    private static List<String> exampleOf(List<String> readme) {
        int start = readme.indexOf("```java") + 1;
        int length = readme.subList(start, readme.size()).indexOf("```");
        return new ArrayList<>(readme.subList(start, start + length));
    }

    private static void exampleAnswersAsItSays(List<String> example) {
        List<String> made = new ArrayList<>();
        SunShadows wall = new SunShadows(10, 10);
        made.add("SunShadows wall = new SunShadows(10, 10); // ");
        int shelf = wall.box(2, 4, 0, 6, 5, 3);
        made.add("int shelf = wall.box(2, 4, 0, 6, 5, 3); // " + shelf + ":");
        int window = wall.window(2, 2, 5, 6);
        made.add("int window = wall.window(2, 2, 5, 6); // " + window + ":");
        wall.sun(9, 1, -2, 1);
        made.add("wall.sun(9, 1, -2, 1); // ");
        made.add("wall.light(9, 100); // " + wall.light(9, 100) + ":");
        made.add("wall.shadow(4, 2, 9); // " + wall.shadow(4, 2, 9) + ":");
        made.add("wall.shadows(SunShadows.NONE, 9); // " + wall.shadows(SunShadows.NONE, 9) + ":");
        made.add("wall.shadows(shelf, 9); // " + wall.shadows(shelf, 9) + ":");
        made.add("wall.dark(window, 9); // " + wall.dark(window, 9) + ":");
        made.add("wall.cell(6, 9); // " + wall.cell(6, 9) + ":");
        made.add("wall.lit(window, 9); // " + wall.lit(window, 9) + ":");
        made.add("wall.lit(window, SunShadows.NONE); // " + wall.lit(window, SunShadows.NONE) + ":");
        made.add("wall.brightest(window); // " + wall.brightest(window) + ":");
        made.add("wall.ledge(window, 9, 1); // " + wall.ledge(window, 9, 1) + ":");
        made.add("wall.deep(window, 9, 9); // " + wall.deep(window, 9, 9) + ":");
        made.add("wall.deep(window, 9, 12); // " + wall.deep(window, 9, 12) + ":");
        made.add("wall.worst(window); // " + wall.worst(window) + ":");
        made.add("wall.move(shelf, 0, 3, 0); // " + wall.move(shelf, 0, 3, 0) + ":");
        made.add("wall.there(shelf, false); // " + wall.there(shelf, false) + ":");
        made.add("wall.shadows(SunShadows.NONE, 9); // " + wall.shadows(SunShadows.NONE, 9) + ":");
        expect(example.size() == made.size(),
                "the example has " + example.size() + " lines, the test " + made.size());
        for (int i = 0; i < example.size() && i < made.size(); i++) {
            String line = example.get(i).replaceAll(" +//", " //");
            expect(line.startsWith(made.get(i)), "README.md: " + line + "\n  but: " + made.get(i));
        }
    }

    // An item begins with "- `" and goes on over the lines that are set in.
    private static List<String> itemsOf(List<String> readme) {
        List<String> items = new ArrayList<>();
        boolean open = false;
        for (String line : readme) {
            if (line.startsWith("- `")) {
                items.add(line);
                open = true;
            } else if (open && line.startsWith("  ")) {
                int last = items.size() - 1;
                items.set(last, items.get(last) + line.substring(1));
            } else {
                open = false;
            }
        }
        return items;
    }

    private static void eachCallIsTold(List<String> items, String document) {
        for (Method call : SunShadows.class.getDeclaredMethods()) {
            if (!Modifier.isPublic(call.getModifiers())) {
                continue;
            }
            String start = "- `" + call.getReturnType().getSimpleName() + " " + call.getName() + "(";
            List<String> told = new ArrayList<>(items);
            told.removeIf(item -> !item.startsWith(start));
            expect(told.size() == 1, "README.md tells " + call.getName() + "() " + told.size() + " times");
            for (String item : told) {
                String signature = item.substring(3, item.indexOf('`', 3));
                expect(document.contains("    public " + signature + " throws "), "not of the face: " + signature);
                tellsWhatItThrows(call, item);
            }
        }
    }

    private static void tellsWhatItThrows(Method call, String item) {
        List<Class<?>> declared = List.of(call.getExceptionTypes());
        for (Class<?> type : List.of(IllegalArgumentException.class, IllegalStateException.class)) {
            expect(item.contains("`" + type.getSimpleName() + "` if ") == declared.contains(type),
                    "README.md of " + call.getName() + "(): " + type.getSimpleName());
        }
    }
}
