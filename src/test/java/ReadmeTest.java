import java.io.IOException;
import java.lang.reflect.Method;
import java.lang.reflect.Modifier;
import java.nio.charset.StandardCharsets;
import java.nio.file.Files;
import java.nio.file.Path;
import java.util.regex.Matcher;
import java.util.regex.Pattern;

/** README.md: its examples answer what stands beside them, and it names each call; run from the project's folder. */
public final class ReadmeTest {
    private static final Pattern EXAMPLE = Pattern.compile("(?s)```java\n(.*?)```");
    private static final Pattern CALL = Pattern.compile("x\\.(\\w+)\\(([^)]*)\\);");
    private static final Pattern ANSWER = Pattern.compile("// (-?\\d+)(:.*)?$");

    private static PlumbCreeds x = null;

    public static void main(String[] args) throws IOException, ReflectiveOperationException {
        String readme = Files.readString(Path.of("README.md"), StandardCharsets.UTF_8);
        testExamples(readme);
        testCallsAreNamed(readme);
        testRefusals(readme);
        Due.end("ReadmeTest");
    }

    private static void testExamples(String readme) throws ReflectiveOperationException {
        Matcher examples = EXAMPLE.matcher(readme);
        int answers = 0;
        while (examples.find()) {
            for (String line : examples.group(1).split("\n")) {
                answers += testLine(line);
            }
        }
        Due.isTrue("examples have answers: " + answers, answers >= 30);
    }

    /** Answers how many answers stand there: that of the line's last call, or none. */
    private static int testLine(String line) throws ReflectiveOperationException {
        if (line.contains("new PlumbCreeds()")) {
            x = new PlumbCreeds();
            return 0;
        }
        Matcher calls = CALL.matcher(line);
        long got = 0;
        int asked = 0;
        while (calls.find()) {
            got = ask(calls.group(1), calls.group(2));
            asked++;
        }
        Matcher answer = ANSWER.matcher(line);
        boolean isWhole = asked > 0 && answer.find();
        Due.isTrue("a call and its answer: " + line, isWhole);
        if (isWhole) {
            Due.is("readme: " + line, got, Long.parseLong(answer.group(1)));
        }
        return isWhole ? 1 : 0;
    }

    private static long ask(String name, String written) throws ReflectiveOperationException {
        Method method = methodOf(name);
        String[] texts = written.isEmpty() ? new String[0] : written.split(", ");
        Object[] arguments = new Object[texts.length];
        for (int i = 0; i < texts.length; i++) {
            arguments[i] = method.getParameterTypes()[i] == boolean.class ? (Object) Boolean.valueOf(texts[i])
                    : texts[i].charAt(0) == '\'' ? (int) texts[i].charAt(1) : (Object) Integer.valueOf(texts[i]);
        }
        return ((Number) method.invoke(x, arguments)).longValue();
    }

    private static Method methodOf(String name) {
        for (Method method : PlumbCreeds.class.getDeclaredMethods()) {
            if (method.getName().equals(name)) {
                return method;
            }
        }
        throw new IllegalStateException("README.md calls what is not there: " + name);
    }

    private static void testCallsAreNamed(String readme) {
        for (Method method : PlumbCreeds.class.getDeclaredMethods()) {
            if (Modifier.isPublic(method.getModifiers())) {
                int parameters = method.getParameterCount();
                String shape = "`" + method.getName() + "\\(" + "\\w+, ".repeat(Math.max(parameters - 1, 0))
                        + (parameters == 0 ? "" : "\\w+") + "\\)`";
                Due.isTrue("README.md names " + method.getName() + " with all it takes",
                        Pattern.compile("(?m)^\\| .*" + shape).matcher(readme).find());
            }
        }
    }

    private static void testRefusals(String readme) {
        Due.isTrue("UNKNOWN", readme.contains("`UNKNOWN` " + PlumbCreeds.UNKNOWN + " |"));
        Due.isTrue("OUTSIDE", readme.contains("`OUTSIDE` " + PlumbCreeds.OUTSIDE + " |"));
        Due.isTrue("NO", readme.contains("`NO` " + PlumbCreeds.NO + " |"));
        Due.isTrue("STATE", readme.contains("`STATE` " + PlumbCreeds.STATE + " |"));
        Due.isTrue("FULL", readme.contains("`FULL` " + PlumbCreeds.FULL + " |"));
        Due.isTrue("NONE", readme.contains("`NONE` " + PlumbCreeds.NONE + " "));
    }
}
