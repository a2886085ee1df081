import java.io.IOException;
import java.lang.reflect.Method;
import java.lang.reflect.Modifier;
import java.nio.file.DirectoryStream;
import java.nio.file.Files;
import java.nio.file.Path;
import java.util.regex.Matcher;
import java.util.regex.Pattern;

/** README.md's example answers as its comments say, and the page names every call and every test. */
public final class ReadmeTest {
    private static final Due DUE = new Due();
    private static final Pattern CALL = Pattern.compile("road\\.(\\w+)\\((.*?)\\); +// (-?\\d+)\\b.*");

    public static void main(String[] args) throws IOException, ReflectiveOperationException {
        String page = Files.readString(Path.of("README.md"));
        example(page);
        calls(page);
        tests(page);
        DUE.end();
    }

    private static void example(String page) throws ReflectiveOperationException {
        DUE.sentence("README: the example");
        int from = page.indexOf("```java\n");
        String block = page.substring(from + 8, page.indexOf("```", from + 8));
        MuleRoad road = null;
        for (String line : block.split("\n")) {
            Matcher call = CALL.matcher(line);
            if (line.equals("MuleRoad road = new MuleRoad();")) {
                road = new MuleRoad();
            } else if (road == null || !call.matches()) {
                DUE.is("a line that can't be tested: " + line, 0, 1);
            } else {
                DUE.is(line, answer(road, call.group(1), call.group(2)), Integer.parseInt(call.group(3)));
            }
        }
        DUE.is("an example stands there", road == null ? 0 : 1, 1);
    }

    private static int answer(MuleRoad road, String name, String told) throws ReflectiveOperationException {
        String[] words = told.isEmpty() ? new String[0] : told.split(", ");
        Object[] values = new Object[words.length];
        for (int i = 0; i < words.length; i++) {
            boolean truth = words[i].equals("true") || words[i].equals("false");
            values[i] = truth ? (Object) Boolean.valueOf(words[i]) : Integer.decode(words[i]);
        }
        for (Method m : MuleRoad.class.getDeclaredMethods()) {
            if (m.getName().equals(name)) {
                return (Integer) m.invoke(road, values);
            }
        }
        throw new NoSuchMethodException(name);
    }

    private static void calls(String page) {
        DUE.sentence("README: how to use the class");
        for (Method m : MuleRoad.class.getDeclaredMethods()) {
            if (Modifier.isPublic(m.getModifiers())) {
                DUE.is(m.getName() + " is in the table", page.contains("`" + m.getName() + "`") ? 1 : 0, 1);
            }
        }
    }

    private static void tests(String page) throws IOException {
        DUE.sentence("README: how to run its tests");
        DUE.is(".ci/run is named", page.contains("`.ci/run`") ? 1 : 0, 1);
        try (DirectoryStream<Path> files = Files.newDirectoryStream(Path.of("src/test/java"), "*Test.java")) {
            for (Path file : files) {
                String name = file.getFileName().toString().replace(".java", "");
                DUE.is(name + " is in the table", page.contains("\n| " + name + " | ") ? 1 : 0, 1);
            }
        }
    }
}
