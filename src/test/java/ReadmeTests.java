import java.io.IOException;
import java.lang.reflect.Method;
import java.lang.reflect.Modifier;
import java.net.URL;
import java.net.URLClassLoader;
import java.nio.charset.StandardCharsets;
import java.nio.file.Files;
import java.nio.file.Path;
import java.util.ArrayList;
import java.util.List;
import java.util.regex.Matcher;
import java.util.regex.Pattern;
import javax.tools.ToolProvider;

/** README.md tells of every call, and its examples, as one run, answer what stands behind their lines. */
final class ReadmeTests {
    private static final Path README = Path.of("README.md");
    private static final Pattern BLOCK = Pattern.compile("(?s)```java\n(.*?)```");
    private static final Pattern ANSWER =
        Pattern.compile("(?:int|(boolean)) (\\w+) = (.*); *// (-?\\d+|true|false)");

    private ReadmeTests() {
    }

    static void runAll() {
        try {
            String readme = Files.readString(README, StandardCharsets.UTF_8);
            tellsOfEveryCall(readme);
            examplesHold(readme);
        } catch (IOException | ReflectiveOperationException e) {
            Check.is("README's examples: " + e, false, true);
        }
    }

    private static void tellsOfEveryCall(String readme) {
        for (Method method : MovingStairs.class.getDeclaredMethods()) {
            if (Modifier.isPublic(method.getModifiers())) {
                String name = method.getName();
                Check.is("README tells of " + name, readme.contains("`" + name + "`"), true);
            }
        }
    }

    private static void examplesHold(String readme) throws IOException, ReflectiveOperationException {
        StringBuilder code = new StringBuilder("public final class ReadmeRun {\n");
        code.append("public static void run(long[] got) {\n");
        List<String> lines = new ArrayList<>();
        List<String> due = new ArrayList<>();
        Matcher block = BLOCK.matcher(readme);
        while (block.find()) {
            for (String line : block.group(1).split("\n")) {
                code.append(line).append('\n');
                Matcher answer = ANSWER.matcher(line);
                if (answer.matches()) {
                    String asNumber = answer.group(1) == null ? "" : " ? 1 : 0";
                    code.append("got[").append(due.size()).append("] = ").append(answer.group(2));
                    code.append(asNumber).append(";\n");
                    lines.add(answer.group(3));
                    due.add(answer.group(4));
                }
            }
        }
        code.append("}\n}\n");
        Check.is("lines with an answer in README", due.size() >= 30, true);
        long[] got = new long[due.size()];
        run(code.toString(), got);
        for (int i = 0; i < got.length; i++) {
            String told = due.get(i);
            long number = told.equals("true") ? 1 : told.equals("false") ? 0 : Long.parseLong(told);
            Check.is("README: " + lines.get(i), got[i], number);
        }
    }

    private static void run(String code, long[] got) throws IOException, ReflectiveOperationException {
        Path dir = Files.createTempDirectory("readme");
        Path source = dir.resolve("ReadmeRun.java");
        Path built = dir.resolve("ReadmeRun.class");
        Files.writeString(source, code);
        String path = System.getProperty("java.class.path");
        int bad = ToolProvider.getSystemJavaCompiler()
            .run(null, null, null, "-cp", path, "-d", dir.toString(), source.toString());
        Check.is("README's examples are Java", bad, 0);
        if (bad == 0) {
            URL[] here = {dir.toUri().toURL()};
            try (URLClassLoader loader = new URLClassLoader(here, ReadmeTests.class.getClassLoader())) {
                loader.loadClass("ReadmeRun").getMethod("run", long[].class).invoke(null, (Object) got);
            }
        }
        Files.deleteIfExists(built);
        Files.deleteIfExists(source);
        Files.deleteIfExists(dir);
    }
}
