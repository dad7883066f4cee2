import java.io.File;
import java.io.IOException;
import java.lang.reflect.Method;
import java.lang.reflect.Modifier;
import java.nio.file.Files;
import java.nio.file.Path;
import java.util.regex.Matcher;
import java.util.regex.Pattern;

/** README.md says what is so: its calls answer what stands behind them, and it names every call and every test. */
public final class ReadmeTest extends Check {
    private static final Pattern CALL = Pattern.compile("(?m)^x\\.(\\w+)\\((.*?)\\); +// (-?\\d+): ");

    public static void main(String[] args) throws IOException, ReflectiveOperationException {
        about("README.md");
        String readme = Files.readString(Path.of("README.md"));
        example(readme);
        for (Method call : BlobRuns.class.getDeclaredMethods()) {
            if (Modifier.isPublic(call.getModifiers())) {
                holds("it names " + call.getName(), readme.contains("`" + call.getName() + "`"));
            }
        }
        for (String test : new File("src/test/java").list((folder, name) -> name.endsWith("Test.java"))) {
            holds("it names " + test, readme.contains("- `" + test.replace(".java", "") + "`: "));
        }
        end();
    }

    private static void example(String readme) throws ReflectiveOperationException {
        BlobRuns x = new BlobRuns();
        Matcher line = CALL.matcher(readme);
        int calls = 0;
        while (line.find()) {
            calls++;
            due(line.group(), answer(x, line.group(1), line.group(2)), Integer.parseInt(line.group(3)));
        }
        due("calls of the example", calls, readme.split("\nx\\.", -1).length - 1);
        holds("there are some", calls > 0);
    }

    private static int answer(BlobRuns x, String name, String list) throws ReflectiveOperationException {
        String[] texts = list.isEmpty() ? new String[0] : list.split(", ");
        Class<?>[] types = new Class<?>[texts.length];
        Object[] values = new Object[texts.length];
        for (int k = 0; k < texts.length; k++) {
            types[k] = int.class;
            values[k] = Integer.valueOf(texts[k]);
        }
        return (int) BlobRuns.class.getMethod(name, types).invoke(x, values);
    }
}
