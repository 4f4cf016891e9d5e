import java.lang.reflect.Method;
import java.lang.reflect.Modifier;
import java.net.URL;
import java.net.URLClassLoader;
import java.nio.charset.StandardCharsets;
import java.nio.file.Files;
import java.nio.file.Path;
import java.util.ArrayList;
import java.util.List;
import java.util.regex.Matcher;
import java.util.regex.Pattern;
import java.util.stream.Stream;
import javax.tools.JavaCompiler;
import javax.tools.ToolProvider;

/** README.md: its Java is compiled and answers what stands behind each call, and it names each call of the face. */
public final class ReadmeTest {
    private static final Check CHECK = new Check();
    private static final Pattern BLOCK = Pattern.compile("(?ms)^```java\n(.*?)^```$");
    private static final Pattern ANSWER = Pattern.compile("(?m)^(f\\..*\\)); *// (-?\\d+): .*$");

    public static void main(String[] args) throws Exception {
        String readme = Files.readString(Path.of("README.md"), StandardCharsets.UTF_8);
        namesTheFace(readme);
        examples(readme);
        CHECK.finish();
    }

    private static void namesTheFace(String readme) {
        for (Method m : HalfFair.class.getDeclaredMethods()) {
            if (Modifier.isPublic(m.getModifiers())) {
                boolean named = Pattern.compile("\\b" + m.getName() + "\\(").matcher(readme).find();
                CHECK.due("README.md names " + m.getName(), named, true);
            }
        }
    }

    private static void examples(String readme) throws Exception {
        StringBuilder text = new StringBuilder("public final class Readme {\n");
        int examples = 0;
        Matcher blocks = BLOCK.matcher(readme);
        while (blocks.find()) {
            String block = blocks.group(1);
            if (block.startsWith("static ")) {
                text.append(block);
            } else {
                examples++;
                text.append("public static void example").append(examples).append("(java.util.List<Object[]> heard) {\n")
                    .append(ANSWER.matcher(block).replaceAll("heard.add(new Object[] {\"$1\", (int) $1, $2});"))
                    .append("}\n");
            }
        }
        CHECK.due("examples in README.md", examples, 2);
        Path folder = Files.createTempDirectory("readme");
        run(folder, text.append("}\n").toString(), examples);
        remove(folder);
    }

    private static void run(Path folder, String text, int examples) throws Exception {
        Path file = folder.resolve("Readme.java");
        Files.writeString(file, text, StandardCharsets.UTF_8);
        JavaCompiler compiler = ToolProvider.getSystemJavaCompiler();
        String path = System.getProperty("java.class.path");
        int faults = compiler.run(null, null, null, "-cp", path, "-d", folder.toString(), file.toString());
        CHECK.due("README.md compiles", faults, 0);
        if (faults != 0) {
            return;
        }
        try (URLClassLoader loader = new URLClassLoader(new URL[] {folder.toUri().toURL()})) {
            Class<?> readme = loader.loadClass("Readme");
            for (int i = 1; i <= examples; i++) {
                List<Object[]> heard = new ArrayList<>();
                readme.getMethod("example" + i, List.class).invoke(null, heard);
                CHECK.due("example " + i + " has answers", heard.size() >= 5, true);
                for (Object[] row : heard) {
                    CHECK.due("README.md: " + row[0], (Integer) row[1], (Integer) row[2]);
                }
            }
        }
    }

    private static void remove(Path folder) throws Exception {
        List<Path> files = new ArrayList<>();
        try (Stream<Path> there = Files.list(folder)) {
            there.forEach(files::add);
        }
        for (Path file : files) {
            Files.delete(file);
        }
        Files.delete(folder);
    }
}
