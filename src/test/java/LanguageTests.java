import java.io.IOException;
import java.lang.reflect.Constructor;
import java.lang.reflect.Field;
import java.lang.reflect.Method;
import java.lang.reflect.Modifier;
import java.nio.charset.StandardCharsets;
import java.nio.file.Files;
import java.nio.file.Path;
import java.util.ArrayList;
import java.util.Arrays;
import java.util.List;
import java.util.Set;
import java.util.TreeSet;
import java.util.regex.Matcher;
import java.util.regex.Pattern;

/** The rules of LANGUAGE.md that can be seen from the source or from the compiled class. */
final class LanguageTests {
    private static final Path SOURCE = Path.of("src", "main", "java", "MovingStairs.java");
    private static final String[] FACE = {
        "int hall(int)", "boolean bar(int,int)", "int link(int,int,int,int,int)", "boolean turn(int,int)",
        "boolean mode(int,int)", "boolean reset(int)", "int burst(int,int,int,int,int,boolean,boolean)",
        "int feed(int,int,int,int,int)", "int end(int)", "int text()", "int fault(int)", "boolean by(int)",
        "int run(int)", "int of(int,int)", "int on(int,int)", "int step(int,int,int)",
        "int route(int,int,boolean)", "int all(int)", "int ways(int,int,int)", "int least(int,int,int)",
        "int felt(int,int)", "int standing(int,int)", "int alone(int,int,int,int)", "int crossing(int,int)",
        "int day(boolean,int,int)", "int effect()", "int mend(int,int,int,int)", "int order(int)",
        "int load(int)", "int unload()", "int taken(int,boolean)", "int image()", "int back()",
        "int about(int)",
    };

    private LanguageTests() {
    }

    static void runAll() {
        face();
        classes();
        try {
            source(Files.readString(SOURCE, StandardCharsets.ISO_8859_1));
        } catch (IOException e) {
            Check.is("reading " + SOURCE, false, true);
        }
    }

    private static void face() {
        Set<String> due = new TreeSet<>(Arrays.asList(FACE));
        Set<String> seen = new TreeSet<>();
        for (Method method : MovingStairs.class.getDeclaredMethods()) {
            if (!Modifier.isPrivate(method.getModifiers()) && !method.isSynthetic()) {
                Check.is("public " + method, Modifier.isPublic(method.getModifiers()), true);
                seen.add(signature(method));
            }
        }
        Check.is("the face " + seen, seen.equals(due), true);
        Check.is("public and final", MovingStairs.class.getModifiers(), Modifier.PUBLIC | Modifier.FINAL);
        Constructor<?>[] constructors = MovingStairs.class.getDeclaredConstructors();
        Check.is("constructors", constructors.length, 1);
        Check.is("public constructor", Modifier.isPublic(constructors[0].getModifiers()), true);
        for (Field field : MovingStairs.class.getDeclaredFields()) {
            boolean open = field.getName().equals("NONE");
            Check.is("private " + field, Modifier.isPrivate(field.getModifiers()), !open);
        }
    }

    private static String signature(Method method) {
        List<String> types = new ArrayList<>();
        for (Class<?> type : method.getParameterTypes()) {
            types.add(type.getName());
        }
        return method.getReturnType().getName() + " " + method.getName() + "(" + String.join(",", types) + ")";
    }

    private static void classes() {
        List<Class<?>> classes = new ArrayList<>();
        classes.add(MovingStairs.class);
        classes.addAll(Arrays.asList(MovingStairs.class.getDeclaredClasses()));
        Check.is("at most twelve classes", classes.size() <= 12, true);
        Set<String> open = new TreeSet<>();
        for (String method : FACE) {
            open.add(method.substring(method.indexOf(' ') + 1, method.indexOf('(')));
        }
        for (Class<?> each : classes) {
            boolean inside = each != MovingStairs.class;
            Check.is("static " + each, Modifier.isStatic(each.getModifiers()), inside);
            Check.is("none inside " + each, inside && each.getDeclaredClasses().length > 0, false);
            int fields = 0;
            for (Field field : each.getDeclaredFields()) {
                boolean constant = Modifier.isStatic(field.getModifiers());
                fields += constant ? 0 : 1;
                Check.is("final " + field, constant && !Modifier.isFinal(field.getModifiers()), false);
            }
            Check.is("at most twenty fields in " + each, fields <= 20, true);
            for (Method method : each.getDeclaredMethods()) {
                Check.is("at most seven parameters in " + method, method.getParameterCount() <= 7, true);
                Check.is("a public one's name in " + method, inside && open.contains(method.getName()), false);
            }
        }
    }

    private static void source(String source) {
        String code = source.replaceAll("(?s)/\\*.*?\\*/", "").replaceAll("//[^\n]*", "");
        String[] words = {
            "throw", "try", "catch", "finally", "synchronized", "assert", "package", "protected", "native",
            "transient", "volatile", "var", "Object", "System\\.(?!arraycopy)", "\\w+Exact", "Thread",
            "Random", "hashCode", "toString", "instanceof", "Exception", "goto", "yield", "double", "float",
        };
        for (String word : words) {
            Check.is("no " + word, Pattern.compile("\\b" + word + "\\b").matcher(code).find(), false);
        }
        Check.is("no lambda", code.contains("->"), false);
        Check.is("no method reference", code.contains("::"), false);
        Check.is("no annotation", code.contains("@"), false);
        Check.is("no joining of texts", Pattern.compile("\"\\s*\\+|\\+\\s*\"").matcher(code).find(), false);
        Matcher imports = Pattern.compile("import ([^;]*);").matcher(code);
        while (imports.find()) {
            boolean known = imports.group(1).matches("java\\.util\\.(Arrays|ArrayList|List)");
            Check.is("import " + imports.group(1), known, true);
        }
        for (int i = 0; i < source.length(); i++) {
            if (source.charAt(i) > 126) {
                Check.is("sign at " + i, source.charAt(i), ' ');
            }
        }
        methodLengths(source.split("\n"));
    }

    private static void methodLengths(String[] lines) {
        Pattern begin = Pattern.compile("( {4}| {8})(?!if |for |while |switch |else|return )[A-Za-z][^=;]*\\) \\{");
        int begun = -1;
        String end = "";
        for (int i = 0; i < lines.length; i++) {
            Matcher method = begin.matcher(lines[i]);
            if (begun < 0 && method.matches()) {
                begun = i;
                end = method.group(1) + "}";
            } else if (begun >= 0 && lines[i].equals(end)) {
                Check.is("at most sixty lines from " + lines[begun], i - begun < 60, true);
                begun = -1;
            }
        }
    }
}
