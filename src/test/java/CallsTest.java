import java.io.IOException;
import java.nio.charset.StandardCharsets;
import java.nio.file.Files;
import java.nio.file.Path;
import java.util.HashMap;
import java.util.Map;
import java.util.Set;
import java.util.TreeMap;
import java.util.TreeSet;
import java.util.regex.Matcher;
import java.util.regex.Pattern;

/** Rules 4, 8 and 11 of LANGUAGE.md, read from the text of the class: who calls whom, how deep, and what of the library. */
public final class CallsTest {
    private static final Path SOURCE = Path.of("src/main/java/PlumbCreeds.java");
    private static final String FACE = "PlumbCreeds";
    private static final int DEEPEST = 8;
    private static final Set<String> LIBRARY = Set.of("Math.abs", "Math.max", "Math.min", "Integer.bitCount");

    private static final Pattern NESTED = Pattern.compile("^    private static final class (\\w+) \\{$");
    private static final Pattern HEAD = Pattern.compile("^( +)(?:(?:public|private|static|final) )*(?:\\w+ )?(\\w+)\\(.*\\) \\{$");
    private static final Pattern TYPED = Pattern.compile("\\b(Valley|Pad|Telling|Settling|Row) (\\w+)\\b");
    private static final Pattern CALL = Pattern.compile("(?:(\\w+|\\))\\.)?(\\b\\w+)\\(");

    /** Of each method, as Class.method, the lines of its body. */
    private static final Map<String, StringBuilder> bodies = new TreeMap<>();
    private static final Map<String, String> typeOf = new HashMap<>();
    private static final Map<String, Integer> depths = new HashMap<>();

    public static void main(String[] args) throws IOException {
        read(Files.readString(SOURCE, StandardCharsets.UTF_8).replaceAll("(?s)/\\*.*?\\*/", "").replaceAll("//.*", ""));
        Due.isTrue("methods are found: " + bodies.size(), bodies.size() > 90);
        for (String method : bodies.keySet()) {
            int depth = depthOf(method, new TreeSet<>());
            Due.isTrue(method + " goes " + depth + " calls deep, " + DEEPEST + " at most", depth <= DEEPEST);
        }
        Due.isTrue("calls are found behind done()", depthOf(FACE + ".done", new TreeSet<>()) >= 5);
        Due.end("CallsTest");
    }

    private static void read(String code) {
        String owner = FACE;
        String method = "";
        String end = "";
        for (String line : code.split("\n")) {
            Matcher nested = NESTED.matcher(line);
            Matcher head = HEAD.matcher(line);
            if (nested.matches()) {
                owner = nested.group(1);
            } else if (line.equals("    }") && !owner.equals(FACE)) {
                owner = FACE;
            } else if (head.matches()) {
                method = owner + "." + head.group(2);
                end = head.group(1) + "}";
                Due.isTrue(method + " stands there once", bodies.put(method, new StringBuilder()) == null);
            } else if (line.equals(end)) {
                method = "";
            } else if (!method.isEmpty()) {
                bodies.get(method).append(line).append('\n');
            }
            Matcher typed = TYPED.matcher(line);
            while (typed.find()) {
                typeOf.put(owner + "." + typed.group(2), typed.group(1));
                typeOf.put(typed.group(2), typed.group(1));
            }
        }
    }

    private static int depthOf(String method, Set<String> open) {
        if (!open.add(method)) {
            Due.isTrue(method + " calls itself", false);
            return DEEPEST;
        }
        if (!depths.containsKey(method)) {
            int deepest = 0;
            for (String called : calledBy(method)) {
                deepest = Math.max(deepest, depthOf(called, open));
            }
            depths.put(method, 1 + deepest);
        }
        open.remove(method);
        return depths.get(method);
    }

    private static Set<String> calledBy(String method) {
        String owner = method.substring(0, method.indexOf('.'));
        Set<String> called = new TreeSet<>();
        Matcher calls = CALL.matcher(bodies.get(method));
        while (calls.find()) {
            String name = calls.group(2);
            String receiver = calls.group(1);
            if (receiver != null && !LIBRARY.contains(receiver + "." + name)) {
                // What a call answers and is asked again, as in imageAt(n).copyFrom(now), is a Valley.
                String type = receiver.equals(")") ? "Valley" : typeOf.getOrDefault(owner + "." + receiver, typeOf.get(receiver));
                add(called, type + "." + name, method);
            } else if (receiver == null) {
                add(called, (bodies.containsKey(owner + "." + name) ? owner : FACE) + "." + name, method);
            }
        }
        return called;
    }

    private static void add(Set<String> called, String name, String by) {
        boolean isKnown = bodies.containsKey(name);
        Due.isTrue(name + ", which " + by + " calls, is of the class, or of the library's part", isKnown);
        if (isKnown) {
            called.add(name);
        }
    }
}
