import java.io.IOException;
import java.lang.reflect.Method;
import java.nio.file.Files;
import java.nio.file.Path;
import java.util.regex.Matcher;
import java.util.regex.Pattern;

/** The run of calls in README.md: each answer it tells is the one that the class gives. */
public final class ReadmeTest {
    private static final Due DUE = new Due();
    private static final Pattern CALL =
        Pattern.compile(" {4}runs\\.(\\w+)\\(([-0-9, ]*)\\);\\s+// (-?[0-9]+|[A-Z]+_[A-Z]+)(:.*)?");
    private static final Pattern TYPED =
        Pattern.compile(" {4}for \\(char c : \"(.*)\"\\.toCharArray\\(\\)\\) runs\\.type\\(c\\);");

    private static Path readme() {
        Path source = Path.of(System.getProperty("main.source", "src/main/java/BaroRuns.java"));
        return source.toAbsolutePath().getParent().resolve("../../../README.md").normalize();
    }

    private static int call(BaroRuns runs, String name, String numbers) throws ReflectiveOperationException {
        String[] texts = numbers.isEmpty() ? new String[0] : numbers.split(", ");
        Class<?>[] types = new Class<?>[texts.length];
        Object[] arguments = new Object[texts.length];
        for (int i = 0; i < texts.length; i++) {
            types[i] = int.class;
            arguments[i] = Integer.valueOf(texts[i]);
        }
        Method method = BaroRuns.class.getMethod(name, types);
        return (int) method.invoke(runs, arguments);
    }

    private static int told(String answer) throws ReflectiveOperationException {
        return answer.contains("_") ? BaroRuns.class.getField(answer).getInt(null) : Integer.parseInt(answer);
    }

    public static void main(String[] args) throws IOException, ReflectiveOperationException {
        BaroRuns runs = new BaroRuns();
        int calls = 0;
        for (String line : Files.readAllLines(readme())) {
            Matcher call = CALL.matcher(line);
            Matcher typed = TYPED.matcher(line);
            if (call.matches()) {
                DUE.is(line.trim(), call(runs, call.group(1), call.group(2)), told(call.group(3)));
                calls++;
            } else if (typed.matches()) {
                Due.typeAll(runs, typed.group(1));
            } else {
                boolean unread = line.startsWith("    runs.") || line.startsWith("    for ");
                DUE.is("lines not understood: " + line.trim(), unread ? 1 : 0, 0);
            }
        }
        DUE.is("there are calls in README.md", calls > 0 ? 1 : 0, 1);
        DUE.end();
    }
}
