import java.nio.file.Files;
import java.nio.file.Path;
import java.util.List;
import java.util.regex.Matcher;
import java.util.regex.Pattern;

/** The rules of LANGUAGE.md that can be seen from the words of the program; run from the project's folder. */
public final class LanguageTest {
    private static final Check CHECK = new Check();

    private static final List<String> RULED_OUT = List.of("import ", "package ", "\\bthrow\\b", "\\bthrows\\b",
            "\\btry\\b", "\\bcatch\\b", "\\bsynchronized\\b", "\\bassert\\b", "->", "::", "\\bprotected\\b",
            "\\bequals\\b", "\\bhashCode\\b", "\\btoString\\b", "\\bThread\\b", "\\bRandom\\b", "\\bDate\\b",
            "currentTimeMillis", "nanoTime", "\\w+Exact\\b", "^\\s*static \\{", "\\+ \"", "\" \\+");

    private static int countOf(String pattern, String text) {
        Matcher matcher = Pattern.compile(pattern, Pattern.MULTILINE).matcher(text);
        int count = 0;
        while (matcher.find()) {
            count++;
        }
        return count;
    }

    private static void nothingRuledOutStands(String code) {
        for (String pattern : RULED_OUT) {
            CHECK.due("places with " + pattern, countOf(pattern, code), 0);
        }
        CHECK.due("static fields that are not final",
                countOf("\\bstatic (?!final|int \\w+\\(|boolean \\w+\\(|void |Expression \\w+\\()", code), 0);
        CHECK.due("classes, some twelve", Math.max(12, countOf("^\\s*(public|private static) final class", code)), 12);
        CHECK.due("classes of every kind", countOf("\\bclass \\w+ ", code),
                countOf("^\\s*(public|private static) final class", code));
    }

    private static void methodsAreShort(String code) {
        int length = 0;
        for (String line : code.split("\n")) {
            boolean begins = line.matches("\\s+[\\w\\[\\] ]+\\([\\w\\[\\], ]*\\) \\{") && !line.contains(" if ");
            length = begins ? 0 : length + 1;
            if (line.matches("    (    )?\\}")) {
                CHECK.due("method that ends with " + line + ", lines", Math.max(60, length), 60);
                length = 0;
            }
        }
    }

    public static void main(String[] args) throws Exception {
        String source = Files.readString(Path.of("src/main/java/LearningAdvisor.java"));
        String code = source.replaceAll("(?s)/\\*.*?\\*/", "").replaceAll("//.*", "");
        nothingRuledOutStands(code);
        methodsAreShort(code);
        CHECK.end();
    }
}
