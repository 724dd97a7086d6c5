import java.io.ByteArrayOutputStream;
import java.io.IOException;
import java.io.PrintStream;
import java.lang.reflect.Method;
import java.lang.reflect.Modifier;
import java.net.URL;
import java.net.URLClassLoader;
import java.nio.charset.StandardCharsets;
import java.nio.file.Files;
import java.nio.file.Path;
import java.util.ArrayList;
import java.util.Arrays;
import java.util.HashMap;
import java.util.List;
import java.util.Map;
import java.util.TreeSet;
import java.util.regex.Matcher;
import java.util.regex.Pattern;
import java.util.stream.Collectors;
import javax.tools.ToolProvider;

/** README.md: its program prints what it says there, and each call is told with its parameters and exceptions. */
public final class ReadmeTest {
    private static final Path OUT = Path.of("build", "readme");
    private static final Pattern EXCEPTION = Pattern.compile("\\b[A-Z][A-Za-z]*Exception\\b");

    private static String block(String readme, String kind) {
        Matcher found = Pattern.compile("```" + kind + "\n(.*?)```\n", Pattern.DOTALL).matcher(readme);
        return found.find() ? found.group(1) : "";
    }

    private static String printedBy(String program) throws Exception {
        Files.createDirectories(OUT);
        Path source = OUT.resolve("Example.java");
        Files.writeString(source, program);
        int exit = ToolProvider.getSystemJavaCompiler().run(null, null, null, "-Xlint:all", "-Werror",
                "-cp", System.getProperty("java.class.path"), "-d", OUT.toString(), source.toString());
        Check.same("compiling README's program", exit, 0);
        PrintStream before = System.out;
        ByteArrayOutputStream printed = new ByteArrayOutputStream();
        try (URLClassLoader loader = new URLClassLoader(new URL[] {OUT.toUri().toURL()})) {
            System.setOut(new PrintStream(printed, true, StandardCharsets.UTF_8));
            loader.loadClass("Example").getMethod("main", String[].class).invoke(null, (Object) new String[0]);
        } finally {
            System.setOut(before);
        }
        return printed.toString(StandardCharsets.UTF_8).replace(System.lineSeparator(), "\n");
    }

    /** What is told behind the dash of each call, by the call's name. */
    private static Map<String, String> callsTold(String readme) {
        Map<String, String> told = new HashMap<>();
        for (String part : readme.split("\n\n|\n(?=- )")) {
            if (part.startsWith("- `")) {
                String name = part.substring(3, part.indexOf('('));
                Check.same("README tells " + name + " once", told.containsKey(name), false);
                told.put(name, part);
            }
        }
        return told;
    }

    private static String exceptionsIn(String text) {
        List<String> names = new ArrayList<>();
        Matcher found = EXCEPTION.matcher(text);
        while (found.find()) {
            names.add(found.group());
        }
        return names.toString();
    }

    private static int parametersIn(String text) {
        String inside = text.substring(text.indexOf('(') + 1, text.indexOf(')'));
        return inside.isEmpty() ? 0 : inside.split(", ").length;
    }

    private static void calls(String readme) {
        Map<String, String> told = callsTold(readme);
        TreeSet<String> names = new TreeSet<>();
        for (Method method : Tilehold.class.getDeclaredMethods()) {
            if (!Modifier.isPublic(method.getModifiers())) {
                continue;
            }
            names.add(method.getName());
            String text = told.getOrDefault(method.getName(), "()");
            Check.same("README's parameters of " + method.getName(), parametersIn(text), method.getParameterCount());
            Check.same("README's exceptions of " + method.getName(), exceptionsIn(text),
                    Arrays.stream(method.getExceptionTypes()).map(Class::getSimpleName).collect(Collectors.toList())
                            .toString());
        }
        Check.same("README's calls", new TreeSet<>(told.keySet()).toString(), names.toString());
    }

    /** Each test is in README's table, and nothing else is. */
    private static void tests(String readme) throws IOException {
        TreeSet<String> told = new TreeSet<>();
        Matcher found = Pattern.compile("(?m)^\\| `(\\w+)` \\|").matcher(readme);
        while (found.find()) {
            told.add(found.group(1));
        }
        try (var files = Files.list(Path.of("src", "test", "java"))) {
            Check.same("README's tests", told.toString(), files.map(file -> file.getFileName().toString())
                    .filter(name -> name.endsWith("Test.java")).map(name -> name.substring(0, name.length() - 5))
                    .collect(Collectors.toCollection(TreeSet::new)).toString());
        }
    }

    public static void main(String[] arguments) throws Exception {
        String readme = Files.readString(Path.of("README.md")).replace("\r\n", "\n");
        Check.same("what README's program prints", printedBy(block(readme, "java")), block(readme, "text"));
        calls(readme);
        tests(readme);
        Check.end();
    }
}
