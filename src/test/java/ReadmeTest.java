import java.io.IOException;
import java.lang.reflect.Field;
import java.lang.reflect.Modifier;
import java.net.URL;
import java.net.URLClassLoader;
import java.nio.file.Files;
import java.nio.file.Path;
import java.util.Map;
import java.util.TreeMap;
import java.util.function.BiConsumer;
import java.util.regex.Matcher;
import java.util.regex.Pattern;
import javax.tools.ToolProvider;

/** README.md: each row of its examples answers as it says, and its answers below 0 are those of the class. */
public final class ReadmeTest {
    private static final Check CHECK = new Check("ReadmeTest");
    private static final Pattern BLOCK = Pattern.compile("(?ms)^```java\n(.*?)^```$");
    private static final Pattern ROW = Pattern.compile("(?m)^(x\\.\\w+\\(.*\\)); *// (-?\\d+): .*$");
    private static final Pattern CONSTANT = Pattern.compile("(?m)^\\| `(-\\d+)` \\| `(\\w+)` \\|");
    private static final Pattern FAULT = Pattern.compile("(?m)^\\| `(-\\d+)` \\| fault (\\d), (\\w+) \\|");

    public static void main(String[] args) throws IOException, ReflectiveOperationException {
        String text = Files.readString(Path.of("README.md"));
        constants(text);
        faults(text);
        Matcher block = BLOCK.matcher(text);
        int blocks = 0;
        while (block.find()) {
            example(block.group(1), ++blocks);
        }
        CHECK.due("examples", blocks, 3);
        CHECK.end();
    }

    private static void constants(String text) throws ReflectiveOperationException {
        Map<String, Long> told = new TreeMap<>();
        Matcher row = CONSTANT.matcher(text);
        while (row.find()) {
            told.put(row.group(2), Long.parseLong(row.group(1)));
        }
        Map<String, Long> really = new TreeMap<>();
        for (Field field : FosterSons.class.getFields()) {
            if (Modifier.isStatic(field.getModifiers())) {
                really.put(field.getName(), ((Number) field.get(null)).longValue());
            }
        }
        CHECK.due("constants", told.toString(), really.toString());
    }

    private static void faults(String text) {
        StringBuilder told = new StringBuilder();
        Matcher row = FAULT.matcher(text);
        while (row.find()) {
            told.append(row.group(3)).append(' ').append(row.group(2)).append(' ').append(row.group(1)).append(' ');
        }
        CHECK.due("faults", told.toString(), "NULL 1 -11 CAST 2 -12 INDEX 3 -13 SIZE 4 -14 ");
    }

    /** The example is compiled as it stands, but that the answer of each row is handed out. */
    private static void example(String code, int number) throws IOException, ReflectiveOperationException {
        CHECK.due("rows without an answer in example " + number,
            code.lines().filter(l -> l.startsWith("x.") && !ROW.matcher(l).matches()).count(), 0);
        String handing = ROW.matcher(code).replaceAll(
            row -> Matcher.quoteReplacement("out.accept(" + row.group(2) + "L, (long) " + row.group(1) + ");"));
        String name = "Example" + number;
        String all = "public final class " + name + " {\npublic static void run("
            + "java.util.function.BiConsumer<Long, Long> out) {\n" + handing + "}\n}\n";
        Path folder = Files.createTempDirectory("readme");
        Path source = Files.writeString(folder.resolve(name + ".java"), all);
        int failed = ToolProvider.getSystemJavaCompiler().run(null, null, null, "-cp",
            System.getProperty("java.class.path"), "-d", folder.toString(), source.toString());
        CHECK.due("example " + number + " does not compile", failed, 0);
        if (failed == 0) {
            Matcher row = ROW.matcher(code);
            run(folder, name, (want, got) -> CHECK.due(row.find() ? row.group() : "?", got, want));
            CHECK.due("rows of example " + number + " that were not come to", row.find() ? 1 : 0, 0);
        }
        removeAll(folder);
    }

    private static void run(Path folder, String name, BiConsumer<Long, Long> out)
        throws IOException, ReflectiveOperationException {
        try (URLClassLoader loader = new URLClassLoader(new URL[] {folder.toUri().toURL()})) {
            loader.loadClass(name).getMethod("run", BiConsumer.class).invoke(null, out);
        }
    }

    private static void removeAll(Path folder) throws IOException {
        try (var files = Files.list(folder)) {
            for (Path file : files.toList()) {
                Files.delete(file);
            }
        }
        Files.delete(folder);
    }
}
