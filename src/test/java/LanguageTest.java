import java.io.IOException;
import java.nio.charset.StandardCharsets;
import java.nio.file.Files;
import java.nio.file.Path;
import java.util.regex.Matcher;
import java.util.regex.Pattern;

/** The rules of LANGUAGE.md that the text of the class shows; run from the project's folder, as .ci/run does. */
public final class LanguageTest {
    private static final Path SOURCE = Path.of("src/main/java/PlumbCreeds.java");
    private static final String[] RULED_OUT = {"\\bimport\\b", "\\bpackage\\b", "->", "::", "\\bthrow\\b", "\\btry\\b",
        "\\bcatch\\b", "\\bsynchronized\\b", "\\bassert\\b", "\\bstatic\\s*\\{", "Exact\\(", "\\bSystem\\b", "\\bThread\\b",
        "\\bvar\\b", "\\bObject\\b", "\\bString\\b", "\\bdouble\\b", "\\bfloat\\b", "\\bwhile\\b", "\\binstanceof\\b"};

    public static void main(String[] args) throws IOException {
        String source = Files.readString(SOURCE, StandardCharsets.UTF_8);
        Due.isTrue("signs are 1 to 127", source.chars().allMatch(sign -> sign > 0 && sign < 128));
        String code = withoutComments(source);
        for (String pattern : RULED_OUT) {
            Due.is(pattern + " stands in the class", count(code, pattern), 0);
        }
        Due.isTrue("twelve classes at most", count(code, "\\bclass\\b") <= 12);
        testMethods(code);
        testRoom(code);
        testIndexes(code);
        Due.end("LanguageTest");
    }

    private static String withoutComments(String source) {
        return source.replaceAll("(?s)/\\*.*?\\*/", "").replaceAll("//.*", "");
    }

    private static int count(String text, String pattern) {
        Matcher matcher = Pattern.compile(pattern).matcher(text);
        int times = 0;
        while (matcher.find()) {
            times++;
        }
        return times;
    }

    /** Rule 11: a method's head stands on a line of its own, its end on the next line as deep that closes. */
    private static void testMethods(String code) {
        String[] lines = code.split("\n");
        Pattern head = Pattern.compile("^( +)(?:(?:public|private|static|final) )*(?:int|long|boolean|void|Valley) (\\w+)\\((.*)\\) \\{$");
        int methods = 0;
        for (int i = 0; i < lines.length; i++) {
            Matcher matcher = head.matcher(lines[i]);
            if (matcher.matches()) {
                methods++;
                int end = i;
                while (!lines[end].equals(matcher.group(1) + "}")) {
                    end++;
                }
                Due.isTrue(matcher.group(2) + " takes 60 lines at most", end - i < 60);
                Due.isTrue(matcher.group(2) + " takes seven parameters at most", matcher.group(3).split(",").length <= 7);
            }
        }
        Due.isTrue("methods are found: " + methods, methods > 80);
    }

    /** No call makes an object, so a run's room is that of the constructor, however many calls it has. */
    private static void testRoom(String code) {
        for (String line : code.split("\n")) {
            if (line.contains("new ")) {
                Due.isTrue("made once: " + line, line.matches(" +(private )?final \\w+ \\w+ = new \\w+\\([\\w +/]*\\);")
                        || line.equals("            cells = new int[Math.max(length, 0)];"));
            }
        }
    }

    /** Each index is tested in Row alone, so no array is touched elsewhere. */
    private static void testIndexes(String code) {
        int row = code.indexOf("private static final class Row {");
        int behindRow = code.indexOf("private static final class Valley {");
        Due.isTrue("Row stands ahead of Valley", row >= 0 && row < behindRow);
        Due.is("brackets outside Row", count(code.substring(0, row) + code.substring(behindRow), "\\["), 0);
    }
}
