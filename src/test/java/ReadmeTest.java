import java.io.IOException;
import java.io.StringWriter;
import java.net.URI;
import java.net.URL;
import java.net.URLClassLoader;
import java.nio.file.Files;
import java.nio.file.Path;
import java.util.ArrayList;
import java.util.Comparator;
import java.util.List;
import java.util.Map;
import java.util.regex.Matcher;
import java.util.regex.Pattern;
import java.util.stream.Stream;
import javax.tools.JavaCompiler;
import javax.tools.JavaFileObject;
import javax.tools.SimpleJavaFileObject;
import javax.tools.ToolProvider;

/**
 * README.md's example, compiled and run as it stands there: each call answers what README.md names behind it, and each
 * call of the face is shown. .ci/run starts it in the project's folder.
 */
public final class ReadmeTest {
    private static final Map<String, Integer> NAMES = Map.of("NONE", HoarseHill.NONE, "BAD", HoarseHill.BAD,
        "STATE", HoarseHill.STATE, "FULL", HoarseHill.FULL);
    private static final Pattern ANSWERED =
        Pattern.compile("x\\.(\\w+)\\([^()]*\\);\\s+// (-?[0-9]+|[A-Z]+)(?:[:,].*)?");

    private static final Checks checks = new Checks();

    public static void main(String[] args) throws Exception {
        List<String> example = blocks(Files.readString(Path.of("README.md")));
        checks.holds("README.md shows an example", !example.isEmpty());
        shown(example);
        List<Integer> due = new ArrayList<>();
        List<String> calls = new ArrayList<>();
        String program = program(example, calls, due);
        int[] got = run(program);
        checks.due("how many calls README.md names an answer of", got.length, due.size());
        for (int k = 0; k < Math.min(got.length, due.size()); k++) {
            checks.due("README.md: " + calls.get(k), got[k], due.get(k));
        }
        checks.end();
    }

    private static List<String> blocks(String text) {
        List<String> lines = new ArrayList<>();
        Matcher block = Pattern.compile("(?s)```java\n(.*?)```").matcher(text);
        while (block.find()) {
            lines.addAll(List.of(block.group(1).split("\n")));
        }
        return lines;
    }

    private static void shown(List<String> example) {
        String all = String.join("\n", example);
        for (java.lang.reflect.Method method : HoarseHill.class.getDeclaredMethods()) {
            if (java.lang.reflect.Modifier.isPublic(method.getModifiers())) {
                checks.holds("README.md shows " + method.getName(), all.contains("x." + method.getName() + "("));
            }
        }
    }

    /** The example with each answer kept; a call at a line's beginning without an answer is refused. */
    private static String program(List<String> example, List<String> calls, List<Integer> due) {
        StringBuilder body = new StringBuilder();
        for (String line : example) {
            Matcher answered = ANSWERED.matcher(line);
            if (answered.matches()) {
                String call = line.substring(0, line.indexOf(';'));
                calls.add(call);
                due.add(number(answered.group(2), line));
                body.append("got.add(").append(call).append(");\n");
            } else {
                checks.holds("README.md names the answer of: " + line, !line.startsWith("x."));
                body.append(line).append("\n");
            }
        }
        return "public final class ReadmeExample {\n  public static int[] answers() {\n"
            + "java.util.List<Integer> got = new java.util.ArrayList<>();\n" + body
            + "return got.stream().mapToInt(Integer::intValue).toArray();\n  }\n}\n";
    }

    private static int number(String named, String line) {
        if (named.matches("-?[0-9]+")) {
            return Integer.parseInt(named);
        }
        checks.holds("README.md names an answer that there is: " + line, NAMES.containsKey(named));
        return NAMES.getOrDefault(named, 0);
    }

    private static int[] run(String program) throws Exception {
        Path out = Files.createTempDirectory("readme");
        try {
            if (!compiles(program, out)) {
                return new int[0];
            }
            URL[] place = {out.toUri().toURL()};
            try (URLClassLoader loader = new URLClassLoader(place, ReadmeTest.class.getClassLoader())) {
                return (int[]) loader.loadClass("ReadmeExample").getMethod("answers").invoke(null);
            }
        } finally {
            remove(out);
        }
    }

    private static boolean compiles(String program, Path out) {
        JavaCompiler javac = ToolProvider.getSystemJavaCompiler();
        if (javac == null) {
            checks.holds("there is a compiler", false);
            return false;
        }
        JavaFileObject source = new SimpleJavaFileObject(URI.create("string:///ReadmeExample.java"),
                JavaFileObject.Kind.SOURCE) {
            @Override
            public CharSequence getCharContent(boolean ignore) {
                return program;
            }
        };
        StringWriter said = new StringWriter();
        List<String> options = List.of("-d", out.toString(), "-cp", System.getProperty("java.class.path"));
        boolean fine = javac.getTask(said, null, null, options, null, List.of(source)).call();
        checks.holds("README.md's example compiles: " + said, fine);
        return fine;
    }

    private static void remove(Path folder) throws IOException {
        try (Stream<Path> all = Files.walk(folder)) {
            for (Path path : all.sorted(Comparator.reverseOrder()).toList()) {
                Files.delete(path);
            }
        }
    }
}
