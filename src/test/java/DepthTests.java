import java.io.ByteArrayOutputStream;
import java.io.File;
import java.io.PrintStream;
import java.util.ArrayList;
import java.util.HashSet;
import java.util.List;
import java.util.Map;
import java.util.Optional;
import java.util.Set;
import java.util.TreeMap;
import java.util.TreeSet;
import java.util.regex.Matcher;
import java.util.regex.Pattern;
import java.util.spi.ToolProvider;

/** Rule 11 of LANGUAGE.md: calls that are no recursion go at most eight deep. Read from the compiled classes. */
final class DepthTests {
    private static final int DEEPEST = 8;
    private static final Pattern METHOD = Pattern.compile("  (?:[^ ].* )?([\\w.$]+)\\(.*\\);");
    private static final Pattern CALL = Pattern.compile(
        "invoke\\w+ .*Method (?:(MovingStairs[\\w$]*)\\.)?\"?([\\w<>]+)\"?:\\((.*)\\)");

    private final Map<String, Set<String>> calls = new TreeMap<>();
    private final Map<String, Integer> depths = new TreeMap<>();

    private DepthTests() {
    }

    static void runAll() {
        Optional<ToolProvider> javap = ToolProvider.findFirst("javap");
        File folder = new File(MovingStairs.class.getProtectionDomain().getCodeSource().getLocation().getPath());
        if (javap.isEmpty() || !folder.isDirectory()) {
            return;
        }
        DepthTests tests = new DepthTests();
        for (String name : folder.list()) {
            if (name.matches("MovingStairs(\\$.*)?\\.class")) {
                ByteArrayOutputStream told = new ByteArrayOutputStream();
                PrintStream out = new PrintStream(told);
                javap.get().run(out, out, "-c", "-p", new File(folder, name).getPath());
                tests.read(name.substring(0, name.length() - 6), told.toString());
            }
        }
        Check.is("methods are found", tests.calls.size() > 100, true);
        for (String method : tests.calls.keySet()) {
            int depth = tests.depth(method);
            Check.is("at most eight deep from " + method + ", which goes " + depth, depth <= DEEPEST, true);
        }
    }

    private void read(String type, String told) {
        Set<String> made = new TreeSet<>();
        for (String line : told.split("\n")) {
            Matcher method = METHOD.matcher(line);
            Matcher call = CALL.matcher(line);
            if (method.matches()) {
                String name = method.group(1).equals(type) ? "<init>" : method.group(1);
                made = new TreeSet<>();
                calls.put(type + "." + name, made);
            } else if (call.find()) {
                made.add((call.group(1) == null ? type : call.group(1)) + "." + call.group(2));
            }
        }
    }

    private Set<String> reached(String from) {
        Set<String> seen = new HashSet<>();
        List<String> open = new ArrayList<>(calls.getOrDefault(from, Set.of()));
        while (!open.isEmpty()) {
            String next = open.remove(open.size() - 1);
            if (calls.containsKey(next) && seen.add(next)) {
                open.addAll(calls.get(next));
            }
        }
        return seen;
    }

    /** Methods that call one another, or themselves, count as one. */
    private int depth(String method) {
        Integer known = depths.get(method);
        if (known != null) {
            return known;
        }
        Set<String> together = new TreeSet<>(Set.of(method));
        for (String other : reached(method)) {
            if (reached(other).contains(method)) {
                together.add(other);
            }
        }
        int deepest = 0;
        for (String each : together) {
            for (String next : calls.get(each)) {
                if (calls.containsKey(next) && !together.contains(next)) {
                    deepest = Math.max(deepest, depth(next));
                }
            }
        }
        for (String each : together) {
            depths.put(each, deepest + 1);
        }
        return deepest + 1;
    }
}
