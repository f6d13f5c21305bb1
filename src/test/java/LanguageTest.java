import java.lang.reflect.Constructor;
import java.lang.reflect.Field;
import java.lang.reflect.Method;
import java.lang.reflect.Modifier;
import java.nio.file.Files;
import java.nio.file.Path;
import java.util.HashSet;
import java.util.LinkedHashMap;
import java.util.Map;
import java.util.Set;
import java.util.TreeSet;
import java.util.regex.Matcher;
import java.util.regex.Pattern;

/** What of LANGUAGE.md can be seen from the source and the classes; .ci/run starts it in the project's folder. */
public final class LanguageTest {
    private static final String FACE = "row/3 set/3 copy/5 drop/1 feed/1 hill/0 fault/0 speak/1 lozenge/1 cold/2"
        + " needs/2 undo/0 member/2 motion/1 weight/1 power/2 fewest/1 plan/2 agenda/1 lozenges/1 later/2 carried/1"
        + " fits/5 costs/3 colds/2 drawn/3 image/1 restore/1 kind/1 as/2 ask/2 trace/1 count/1 status/0";

    private static final Checks checks = new Checks();

    public static void main(String[] args) throws Exception {
        String source = Files.readString(Path.of("src/main/java/HoarseHill.java"));
        String code = source.replaceAll("(?s)/\\*.*?\\*/", "").replaceAll("//[^\n]*", "");
        face();
        inside();
        words(code);
        library(code);
        methods(code);
        checks.end();
    }

    private static void face() {
        Class<?> type = HoarseHill.class;
        checks.holds("the class is public and final",
            Modifier.isPublic(type.getModifiers()) && Modifier.isFinal(type.getModifiers()));
        Set<String> due = new TreeSet<>(Set.of(FACE.split(" ")));
        Set<String> seen = new TreeSet<>();
        for (Method method : type.getDeclaredMethods()) {
            if (Modifier.isPublic(method.getModifiers())) {
                seen.add(method.getName() + "/" + method.getParameterCount());
                checks.holds(method + " takes and gives ints, and throws nothing", isOfInts(method));
            } else {
                checks.holds(method + " is private", Modifier.isPrivate(method.getModifiers()));
                checks.holds(method + " bears no public name", !FACE.matches("(.* )?" + method.getName() + "/.*"));
            }
        }
        checks.holds("the face is " + due + ", was " + seen, due.equals(seen));
        for (Field field : type.getDeclaredFields()) {
            boolean constant = Set.of("NONE", "BAD", "STATE", "FULL").contains(field.getName());
            checks.holds(field + " is seen as it should be",
                constant ? Modifier.isPublic(field.getModifiers()) : Modifier.isPrivate(field.getModifiers()));
        }
        Constructor<?>[] makers = type.getDeclaredConstructors();
        checks.holds("one public constructor without arguments", makers.length == 1
            && makers[0].getParameterCount() == 0 && Modifier.isPublic(makers[0].getModifiers()));
    }

    private static boolean isOfInts(Method method) {
        boolean ints = method.getReturnType() == int.class && method.getExceptionTypes().length == 0;
        for (Class<?> type : method.getParameterTypes()) {
            ints &= type == int.class;
        }
        return ints && !Modifier.isStatic(method.getModifiers());
    }

    private static void inside() {
        Class<?>[] inner = HoarseHill.class.getDeclaredClasses();
        checks.holds("some twelve classes at most", inner.length <= 11);
        for (Class<?> type : inner) {
            checks.holds(type + " is static", Modifier.isStatic(type.getModifiers()));
            checks.holds(type + " is not seen outside",
                !Modifier.isPublic(type.getModifiers()) && !Modifier.isProtected(type.getModifiers()));
            fields(type);
            for (Method method : type.getDeclaredMethods()) {
                checks.holds(method + " bears no public name", !FACE.matches("(.* )?" + method.getName() + "/.*"));
            }
        }
        fields(HoarseHill.class);
    }

    private static void fields(Class<?> type) {
        int own = 0;
        for (Field field : type.getDeclaredFields()) {
            if (Modifier.isStatic(field.getModifiers())) {
                checks.holds(field + " is final", Modifier.isFinal(field.getModifiers()));
            } else {
                own++;
            }
        }
        checks.holds(type + " has some twenty fields at most", own <= 20);
    }

    private static void words(String code) {
        String[] refused = {"throw", "throws", "try", "catch", "finally", "synchronized", "assert", "import", "package",
            "->", "::", "Exact", "new Object", "static \\{", "@", "volatile", "native", "Random", "Thread", "System\\.in",
            "System\\.out", "nanoTime", "currentTimeMillis", "getenv", "double", "float", "equals", "hashCode",
            "toString"};
        for (String word : refused) {
            String whole = word.matches("[a-zA-Z]+") ? "\\b" + word + "\\b" : word;
            checks.holds("no " + word, !Pattern.compile(whole).matcher(code).find());
        }
        // Only loops with a counter against a bound are used.
        checks.holds("no while, no do", !Pattern.compile("\\b(while|do)\\b").matcher(code).find());
        checks.holds("no endless for", !code.matches("(?s).*for \\([^;]*;\\s*;.*"));
        for (int i = 0; i < code.length(); i++) {
            if (code.charAt(i) > 126) {
                checks.holds("letters 1 to 127 alone, at " + i, false);
            }
        }
    }

    /** Of the library only these are used, and nothing is made but own classes and rows of ints. */
    private static void library(String code) {
        Set<String> own = new HashSet<>();
        for (Class<?> type : HoarseHill.class.getDeclaredClasses()) {
            own.add(type.getSimpleName());
        }
        Matcher used = Pattern.compile("\\b([A-Z]\\w*)\\.(\\w+)").matcher(code);
        while (used.find()) {
            checks.holds(used.group() + " may be used", own.contains(used.group(1))
                || Set.of("Math.min", "Math.max", "Integer.bitCount", "System.arraycopy").contains(used.group()));
        }
        Matcher made = Pattern.compile("\\bnew (\\w+)(\\W)").matcher(code);
        while (made.find()) {
            checks.holds(made.group() + " may be made", made.group(2).equals("[") ? made.group(1).equals("int")
                : own.contains(made.group(1)));
        }
        Matcher cast = Pattern.compile("\\((\\w+)\\) ?[\\w(]").matcher(code.replaceAll("\\b(if|for|switch) \\(.*", ""));
        while (cast.find()) {
            checks.holds("a cast among numbers: " + cast.group(), Set.of("byte", "short", "int").contains(cast.group(1)));
        }
    }

    /** Methods are short, take seven numbers at most, and calls that are no recursion go eight deep at most. */
    private static void methods(String code) {
        Map<String, Set<String>> calls = new LinkedHashMap<>();
        Map<String, String> bodies = new LinkedHashMap<>();
        Pattern head = Pattern.compile("\n +(?:public |private |static |final )*(?:int|void|boolean|long|Hill) "
            + "(\\w+)\\(([^)]*)\\) \\{\n");
        Matcher m = head.matcher(code);
        while (m.find()) {
            String body = bodyFrom(code, m.end() - 2);
            checks.holds(m.group(1) + " has some sixty lines at most", body.split("\n").length <= 60);
            checks.holds(m.group(1) + " takes seven at most", m.group(2).split(",").length <= 7);
            checks.holds(m.group(1) + " is the only one of its name", !bodies.containsKey(m.group(1)));
            bodies.put(m.group(1), body);
        }
        checks.holds("all methods were seen", bodies.size() > 90);
        for (String name : bodies.keySet()) {
            Set<String> called = new HashSet<>();
            Matcher call = Pattern.compile("(\\w+)\\(").matcher(bodies.get(name));
            while (call.find()) {
                if (!call.group(1).equals(name) && !Set.of("if", "for", "switch").contains(call.group(1))) {
                    called.add(call.group(1));
                }
            }
            calls.put(name, called);
        }
        for (String name : bodies.keySet()) {
            int deep = depth(name, calls, 0);
            checks.holds(name + " goes eight deep at most, goes " + deep, deep <= 8);
        }
    }

    private static String bodyFrom(String code, int open) {
        int depth = 0;
        for (int at = open; at < code.length(); at++) {
            depth += code.charAt(at) == '{' ? 1 : code.charAt(at) == '}' ? -1 : 0;
            if (depth == 0) {
                return code.substring(open, at + 1);
            }
        }
        return code.substring(open);
    }

    private static int depth(String name, Map<String, Set<String>> calls, int open) {
        int deepest = 0;
        if (open > 20) {
            return 100;
        }
        for (String called : calls.getOrDefault(name, Set.of())) {
            deepest = Math.max(deepest, depth(called, calls, open + 1));
        }
        return deepest + 1;
    }
}
