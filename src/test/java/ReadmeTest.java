import java.io.ByteArrayOutputStream;
import java.io.IOException;
import java.io.PrintStream;
import java.net.URL;
import java.net.URLClassLoader;
import java.nio.charset.StandardCharsets;
import java.nio.file.Files;
import java.nio.file.Path;
import java.util.ArrayList;
import java.util.List;
import java.util.regex.Matcher;
import java.util.regex.Pattern;
import javax.tools.ToolProvider;

/** The example of README.md compiles, and each of its lines prints what stands behind it; the README names every call. */
public final class ReadmeTest {
    private static final Telling T = new Telling("ReadmeTest");
    private static final Pattern BLOCK = Pattern.compile("```java\n(.*?)```", Pattern.DOTALL);
    private static final Pattern PRINTED = Pattern.compile("println\\(.*\\); // ([-\\w]+)");
    private static final Pattern CALL = Pattern.compile("public \\w+ (\\w+)\\(");

    public static void main(String[] args) throws IOException, ReflectiveOperationException {
        String readme = Files.readString(Path.of("README.md"));
        Matcher block = BLOCK.matcher(readme);
        T.due("the README has an example", block.find(), true);
        compare(due(block.group(1)), printed(block.group(1)));
        Matcher call = CALL.matcher(Files.readString(Path.of("../shared/DOC.md")));
        while (call.find()) {
            T.due("the README names " + call.group(1), readme.contains("`" + call.group(1) + "`"), true);
        }
        T.close();
    }

    private static List<String> due(String example) {
        List<String> all = new ArrayList<>();
        Matcher line = PRINTED.matcher(example);
        while (line.find()) {
            all.add(line.group(1));
        }
        return all;
    }

    private static List<String> printed(String example) throws IOException, ReflectiveOperationException {
        Path out = Files.createTempDirectory("readme");
        Path source = out.resolve("Example.java");
        Path compiled = out.resolve("Example.class");
        PrintStream before = System.out;
        ByteArrayOutputStream bytes = new ByteArrayOutputStream();
        try {
            Files.writeString(source, example);
            String path = System.getProperty("java.class.path");
            int code = ToolProvider.getSystemJavaCompiler().run(null, null, null, "-cp", path, "-d", out.toString(), source.toString());
            T.due("the example compiles", code, 0);
            try (URLClassLoader loader = new URLClassLoader(new URL[] {out.toUri().toURL()})) {
                System.setOut(new PrintStream(bytes, true, StandardCharsets.UTF_8));
                loader.loadClass("Example").getMethod("main", String[].class).invoke(null, (Object) new String[0]);
            }
        } finally {
            System.setOut(before);
            Files.deleteIfExists(source);
            Files.deleteIfExists(compiled);
            Files.deleteIfExists(out);
        }
        return bytes.toString(StandardCharsets.UTF_8).lines().toList();
    }

    private static void compare(List<String> due, List<String> printed) {
        T.due("how many lines are printed", printed.size(), due.size());
        T.due("there are some", due.isEmpty(), false);
        for (int i = 0; i < Math.min(due.size(), printed.size()); i++) {
            T.due("line " + i + " prints " + printed.get(i) + " in the place of " + due.get(i), due.get(i).equals(printed.get(i)), true);
        }
    }
}
