import java.io.IOException;
import java.lang.reflect.Method;
import java.lang.reflect.Modifier;
import java.nio.file.Files;
import java.nio.file.Path;
import java.util.List;
import java.util.Set;
import java.util.TreeSet;
import java.util.regex.Matcher;
import java.util.regex.Pattern;
import java.util.stream.Collectors;
import java.util.stream.Stream;

/** README.md: each call of its run answers what stands behind it, all calls are shown, and all tests are listed. */
public final class ReadmeTest {
    private static final Path README = Path.of("README.md");
    private static final Path TESTS = Path.of("src/test/java");
    private static final Pattern SHOWN = Pattern.compile("x\\.(\\w+)\\(([^()]*)\\);\\s*// (-?\\d+)(: .*)?");
    private static final int MOST_CALLS = 512;

    public static void main(String[] args) throws ReflectiveOperationException, IOException {
        List<String> lines = Files.readAllLines(README);
        run(lines);
        testsAreListed(String.join("\n", lines));
        Check.finish("ReadmeTest");
    }

    private static void run(List<String> lines) throws ReflectiveOperationException {
        ConvolutionBench x = new ConvolutionBench();
        Set<String> shown = new TreeSet<>();
        int calls = 0;
        for (String line : lines) {
            if (!line.startsWith("x.")) continue;
            Matcher call = SHOWN.matcher(line);
            boolean isShown = call.matches();
            Check.holds("a call with its answer: " + line, isShown);
            if (!isShown) continue;
            Check.due(line, answer(x, method(call.group(1)), call.group(2)), Long.parseLong(call.group(3)));
            shown.add(call.group(1));
            calls++;
        }
        Check.due("objects that are made", lines.stream().filter(l -> l.contains("= new ConvolutionBench()")).count(), 1);
        Check.holds("an object is for 512 calls, here are " + calls, calls <= MOST_CALLS);
        Check.holds("all calls of the face are shown, here are " + shown, shown.equals(face()));
    }

    private static long answer(ConvolutionBench x, Method method, String text) throws ReflectiveOperationException {
        String[] words = text.isBlank() ? new String[0] : text.split(",");
        Class<?>[] types = method.getParameterTypes();
        Object[] arguments = new Object[words.length];
        for (int i = 0; i < words.length; i++) {
            String word = words[i].trim();
            boolean isInt = types[i] == int.class;
            arguments[i] = isInt ? (Object) Integer.valueOf(word) : (Object) Long.valueOf(word.replaceFirst("L$", ""));
        }
        return ((Number) method.invoke(x, arguments)).longValue();
    }

    private static Method method(String name) throws NoSuchMethodException {
        for (Method m : ConvolutionBench.class.getDeclaredMethods()) {
            if (Modifier.isPublic(m.getModifiers()) && m.getName().equals(name)) return m;
        }
        throw new NoSuchMethodException(name);
    }

    private static Set<String> face() {
        Set<String> names = new TreeSet<>();
        for (Method m : ConvolutionBench.class.getDeclaredMethods()) {
            if (Modifier.isPublic(m.getModifiers())) names.add(m.getName());
        }
        return names;
    }

    private static void testsAreListed(String readme) throws IOException {
        try (Stream<Path> files = Files.list(TESTS)) {
            for (String name : files.map(f -> f.getFileName().toString()).sorted().collect(Collectors.toList())) {
                if (!name.endsWith("Test.java")) continue;
                Check.holds("a line for " + name, readme.contains("| `" + name.replace(".java", "") + "` |"));
            }
        }
        Check.holds("how to run the tests", readme.contains(".ci/run"));
    }
}
