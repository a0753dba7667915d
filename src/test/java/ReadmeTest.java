import java.io.ByteArrayOutputStream;
import java.io.IOException;
import java.io.PrintStream;
import java.lang.reflect.Method;
import java.lang.reflect.Modifier;
import java.net.URL;
import java.net.URLClassLoader;
import java.nio.charset.StandardCharsets;
import java.nio.file.Files;
import java.nio.file.Path;
import java.util.ArrayList;
import java.util.List;
import java.util.regex.Matcher;
import java.util.regex.Pattern;
import javax.tools.JavaCompiler;
import javax.tools.ToolProvider;

/** README.md tells how to use the class: its example runs and prints what stands behind it, and every call is named. */
public final class ReadmeTest {
    private static final Path README = Path.of("README.md");
    private static final Pattern EXAMPLE = Pattern.compile("```java\n(.*?)```", Pattern.DOTALL);
    private static final Pattern SHOWN = Pattern.compile(" show\\((.*)\\); *// (-?\\w+)(: .*)?");
    private static int wrong = 0;

    public static void main(String[] args) throws Exception {
        String readme = Files.readString(README);
        namesEveryCall(readme);
        Matcher example = EXAMPLE.matcher(readme);
        must(example.find(), "there is no example");
        if (wrong == 0) {
            printsWhatItSays(example.group(1));
        }
        System.out.println(wrong == 0 ? "README.md holds" : wrong + " things in README.md are wrong");
        if (wrong != 0) {
            System.exit(1);
        }
    }

    private static void must(boolean holds, String otherwise) {
        if (!holds) {
            wrong++;
            System.out.println(otherwise);
        }
    }

    private static void namesEveryCall(String readme) {
        for (Method method : BunchRace.class.getDeclaredMethods()) {
            if (Modifier.isPublic(method.getModifiers())) {
                must(readme.contains("`" + method.getName() + "`"), "README.md doesn't name " + method.getName());
            }
        }
        must(readme.contains("bash .ci/run"), "README.md doesn't say how to run the tests");
    }

    private static void printsWhatItSays(String program) throws Exception {
        List<String> calls = new ArrayList<>();
        List<String> said = new ArrayList<>();
        Matcher shown = SHOWN.matcher(program);
        while (shown.find()) {
            calls.add(shown.group(1));
            said.add(shown.group(2));
        }
        String[] printed = outputOf(program).split("\\R");
        must(!said.isEmpty() && printed.length == said.size(),
                "the example says " + said.size() + " answers and prints " + printed.length);
        for (int i = 0; i < said.size() && i < printed.length; i++) {
            must(said.get(i).equals(printed[i]), calls.get(i) + " printed " + printed[i] + ", README.md says " + said.get(i));
        }
    }

    private static String outputOf(String program) throws Exception {
        Path folder = Files.createTempDirectory("readme");
        Path source = folder.resolve("Example.java");
        try {
            Files.writeString(source, program);
            JavaCompiler compiler = ToolProvider.getSystemJavaCompiler();
            must(compiler != null && compiler.run(null, null, null, "-cp", System.getProperty("java.class.path"), "-d",
                    folder.toString(), source.toString()) == 0, "the example doesn't compile");
            return wrong == 0 ? run(folder) : "";
        } finally {
            remove(folder);
        }
    }

    private static String run(Path folder) throws Exception {
        ByteArrayOutputStream caught = new ByteArrayOutputStream();
        PrintStream usual = System.out;
        System.setOut(new PrintStream(caught, true, StandardCharsets.UTF_8));
        try (URLClassLoader loader = new URLClassLoader(new URL[] {folder.toUri().toURL()})) {
            loader.loadClass("Example").getMethod("main", String[].class).invoke(null, (Object) new String[0]);
        } finally {
            System.setOut(usual);
        }
        return caught.toString(StandardCharsets.UTF_8);
    }

    private static void remove(Path folder) throws IOException {
        try (var files = Files.list(folder)) {
            for (Path file : files.toList()) {
                Files.delete(file);
            }
        }
        Files.delete(folder);
    }
}
