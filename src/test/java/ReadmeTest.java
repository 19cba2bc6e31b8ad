import java.io.IOException;
import java.lang.reflect.Method;
import java.lang.reflect.Modifier;
import java.nio.file.Files;
import java.nio.file.Path;
import java.util.regex.Matcher;
import java.util.regex.Pattern;

/** README.md names every call, and its example answers what it says. */
public final class ReadmeTest {
    private static final Pattern CALL = Pattern.compile("x\\.(\\w+)\\(([^)]*)\\);\\s+// (-?\\d+):.*");
    private static final Pattern TEXT = Pattern.compile("String text = \"([^\"]*)\";.*");

    public static void main(String[] args) throws IOException, ReflectiveOperationException {
        String readme = Files.readString(Path.of("README.md"));
        namesEveryCall(readme);
        namesEveryTest(readme);
        exampleHolds(readme);
        Check.finish();
    }

    private static void namesEveryCall(String readme) {
        for (Method m : SparrowChange.class.getDeclaredMethods()) {
            if (Modifier.isPublic(m.getModifiers()) && !readme.contains("| `" + m.getName() + "(")) {
                Check.fail("README.md does not tell of " + m.getName());
            }
        }
    }

    private static void namesEveryTest(String readme) throws IOException {
        try (var files = Files.list(Path.of("src/test/java"))) {
            files.map(file -> file.getFileName().toString().replace(".java", ""))
                .filter(name -> name.endsWith("Test") && !readme.contains("| `" + name + "` |"))
                .forEach(name -> Check.fail("README.md does not tell of " + name));
        }
    }

    private static void exampleHolds(String readme) throws ReflectiveOperationException {
        SparrowChange x = new SparrowChange();
        int compared = 0;
        for (String line : readme.substring(readme.indexOf("```java"), readme.lastIndexOf("```")).split("\n")) {
            Matcher text = TEXT.matcher(line.trim());
            Matcher call = CALL.matcher(line.trim());
            if (text.matches()) {
                Check.feed(x, text.group(1));
            } else if (call.matches()) {
                Check.due("README.md: " + call.group(1), answer(x, call.group(1), call.group(2)), Integer.parseInt(call.group(3)));
                compared++;
            } else if (line.trim().startsWith("x.") && !line.contains("feed(")) {
                Check.fail("README.md: a call without its answer: " + line.trim());
            }
        }
        if (compared < 10) {
            Check.fail("README.md has an example of " + compared + " calls only");
        }
    }

    private static int answer(SparrowChange x, String name, String given) throws ReflectiveOperationException {
        String[] words = given.isEmpty() ? new String[0] : given.split(", *");
        for (Method m : SparrowChange.class.getDeclaredMethods()) {
            if (m.getName().equals(name) && m.getParameterCount() == words.length) {
                Object[] values = new Object[words.length];
                for (int i = 0; i < values.length; i++) {
                    boolean number = m.getParameterTypes()[i] == int.class;
                    values[i] = number ? (Object) Integer.valueOf(words[i]) : Boolean.valueOf(words[i]);
                }
                return (Integer) m.invoke(x, values);
            }
        }
        Check.fail("README.md: there is no such call: " + name);
        return 0;
    }
}
