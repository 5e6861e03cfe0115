import java.io.IOException;
import java.lang.reflect.Method;
import java.lang.reflect.Modifier;
import java.net.URL;
import java.net.URLClassLoader;
import java.nio.file.Files;
import java.nio.file.Path;
import java.util.function.BiConsumer;
import java.util.regex.Matcher;
import java.util.regex.Pattern;
import javax.tools.ToolProvider;

/** What README.md shows as Java is run, and each answer behind a call is compared. */
public final class ReadmeTest {
    private static final Pattern BLOCK = Pattern.compile("```java\n(.*?)```", Pattern.DOTALL);
    private static final Pattern CALL = Pattern.compile("(ruler\\..*);\\s+// (throws )?(\\S+)");

    public static void main(String[] args) throws Exception {
        String readme = Files.readString(Path.of("README.md"));
        namesEachMethod(readme);
        run(programOf(readme));
        Check.finish();
    }

    private static void namesEachMethod(String readme) {
        String table = readme.substring(readme.indexOf("## All methods"));
        for (Method method : CoastlineRuler.class.getDeclaredMethods()) {
            if (Modifier.isPublic(method.getModifiers())) {
                Check.same("README.md names " + method.getName(),
                        table.contains("`" + method.getName() + "`"), true);
            }
        }
    }

    /** One class of all that the page shows, which hands each answer on, with the due one. */
    private static String programOf(String readme) {
        StringBuilder methods = new StringBuilder();
        StringBuilder calls = new StringBuilder();
        Matcher block = BLOCK.matcher(readme);
        while (block.find()) {
            if (block.group(1).startsWith("static ")) {
                methods.append(block.group(1));
            } else {
                block.group(1).lines().forEach(line -> calls.append(told(line)).append('\n'));
            }
        }
        return "public final class Shown {\n"
                + "public static void show(java.util.function.BiConsumer<String, Object> told) {\n"
                + calls + "}\n" + methods + "}\n";
    }

    private static String told(String line) {
        Matcher call = CALL.matcher(line);
        if (!call.matches()) {
            return line;
        }
        String what = "\"" + line.replace("\\", "\\\\").replace("\"", "\\\"") + "\"";
        String answer = "told.accept(" + what + ", " + call.group(1) + ");";
        return call.group(2) == null ? answer : "try { " + answer
                + " } catch (RuntimeException e) {"
                + " told.accept(" + what + ", e.getClass().getSimpleName()); }";
    }

    private static void run(String program) throws Exception {
        Path folder = Files.createTempDirectory("shown");
        try {
            Path source = Files.writeString(folder.resolve("Shown.java"), program);
            int failed = ToolProvider.getSystemJavaCompiler().run(null, null, null, "-cp",
                    System.getProperty("java.class.path"), "-d", folder.toString(),
                    source.toString());
            Check.same("what README.md shows is compiled", failed, 0);
            show(folder);
        } finally {
            Files.deleteIfExists(folder.resolve("Shown.class"));
            Files.deleteIfExists(folder.resolve("Shown.java"));
            Files.deleteIfExists(folder);
        }
    }

    private static void show(Path folder) throws IOException, ReflectiveOperationException {
        BiConsumer<String, Object> told = (line, answer) -> {
            Matcher call = CALL.matcher(line);
            Check.same(line, String.valueOf(answer), call.matches() ? call.group(3) : "");
        };
        URL[] places = {folder.toUri().toURL()};
        try (URLClassLoader loader = new URLClassLoader(places)) {
            loader.loadClass("Shown").getMethod("show", BiConsumer.class).invoke(null, told);
        }
    }
}
