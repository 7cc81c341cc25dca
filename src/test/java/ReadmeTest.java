import java.io.IOException;
import java.lang.reflect.InvocationTargetException;
import java.lang.reflect.Method;
import java.lang.reflect.Modifier;
import java.nio.file.DirectoryStream;
import java.nio.file.Files;
import java.nio.file.Path;
import java.util.Arrays;
import java.util.HashMap;
import java.util.Map;
import java.util.regex.Matcher;
import java.util.regex.Pattern;

/** README.md tells the truth: its example answers so, and it names every method and test. */
public final class ReadmeTest {
    // an example's call, and the answer that stands first in the comment behind it
    private static final Pattern EXAMPLE =
            Pattern.compile("(?m)^s\\.(\\w+)\\(([^)]*)\\);\\s*// ([^:\\s]+)");

    public static void main(String[] args) throws IOException {
        String readme = Files.readString(Path.of("README.md"));
        Map<String, Method> face = face();
        exampleAnswersSo(readme, face);
        for (String name : face.keySet()) {
            Checks.due("a table names " + name, tableNames(readme, name), true);
        }
        everyTestIsNamed(readme);
        Checks.finish("ReadmeTest");
    }

    private static Map<String, Method> face() {
        Map<String, Method> face = new HashMap<>();
        for (Method method : Sumlarder.class.getDeclaredMethods()) {
            if (Modifier.isPublic(method.getModifiers())) {
                face.put(method.getName(), method);
            }
        }
        return face;
    }

    private static void exampleAnswersSo(String readme, Map<String, Method> face) {
        Sumlarder s = new Sumlarder();
        Matcher example = EXAMPLE.matcher(readme);
        int seen = 0;
        while (example.find()) {
            seen++;
            String call = example.group(1) + "(" + example.group(2) + ")";
            Object got = answer(face.get(example.group(1)), s, example.group(2));
            Checks.due("example " + call, String.valueOf(got), example.group(3));
        }
        int written = readme.split("\ns\\.", -1).length - 1;
        Checks.due("examples that were tried", seen, written);
        Checks.due("there are examples", seen > 0, true);
    }

    private static Object answer(Method method, Sumlarder s, String values) {
        if (method == null) {
            return "no such method";
        }
        Object[] arguments = Arrays.stream(values.split(",")).map(String::trim)
                .filter(value -> !value.isEmpty()).map(Integer::valueOf).toArray();
        try {
            return method.invoke(s, arguments);
        } catch (InvocationTargetException e) {
            return e.getCause().getClass();
        } catch (IllegalAccessException e) {
            throw new IllegalStateException(e);
        }
    }

    private static boolean tableNames(String readme, String name) {
        return readme.lines().anyMatch(line -> line.startsWith("|") && line.contains("`" + name + "`"));
    }

    private static void everyTestIsNamed(String readme) throws IOException {
        try (DirectoryStream<Path> tests =
                Files.newDirectoryStream(Path.of("src/test/java"), "*Test.java")) {
            for (Path test : tests) {
                String name = test.getFileName().toString().replace(".java", "");
                Checks.due("a table names " + name, tableNames(readme, name), true);
            }
        }
    }
}
