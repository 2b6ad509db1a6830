import java.nio.file.Files;
import java.nio.file.Path;
import java.util.List;
import java.util.regex.Matcher;
import java.util.regex.Pattern;

/** The rules of LANGUAGE.md that can be seen from the words of the program; run from the project's folder. */
public final class LanguageTest {
    private static final Check CHECK = new Check();

    /** Each with the number of its rule before it. */
    private static final List<String> RULED_OUT = List.of(
            "6: \\bthrow\\b", "6: \\bthrows\\b", "6: \\btry\\b", "6: \\bcatch\\b", "6: \\bsynchronized\\b",
            "6: \\bassert\\b", "1: \\bprotected\\b", "1: ^\\s*package ", "2: ::", "2: \\bnew [\\w<>]+\\([^;{]*\\) *\\{",
            "5: ^\\s*static *\\{", "4: \\w+Exact\\b", "6: \\bint hashCode\\b", "6: \\bboolean equals\\b",
            "6: \\bString toString\\b", "10: \\+ *\"", "10: \" *\\+",
            "13: \\bThread\\b", "13: \\bRandom\\b", "13: \\bMath\\.random\\b", "13: \\bSystem\\.(?!arraycopy\\b)",
            "13: \\bRuntime\\b", "13: \\bjava\\.(?!util\\.(ArrayList|List|Arrays|Iterator)\\b)");

    private static int countOf(String pattern, String text) {
        Matcher matcher = Pattern.compile(pattern, Pattern.MULTILINE).matcher(text);
        int count = 0;
        while (matcher.find()) {
            count++;
        }
        return count;
    }

    private static void nothingRuledOutStands(String code) {
        for (String rule : RULED_OUT) {
            String pattern = rule.substring(rule.indexOf(' ') + 1);
            CHECK.due("places against rule " + rule, countOf(pattern, code), 0);
        }
    }

    /** A field ends with a semicolon before any parenthesis of parameters; a static one must be final. */
    private static void staticFieldsAreFinal(String code) {
        CHECK.due("static fields that are not final",
                countOf("^\\s*(public |private )?static (?!final\\b)[\\w<>\\[\\]]+ \\w+( =[^{(]*)?;", code), 0);
    }

    private static void oneFileHoldsAllClasses(String code) {
        CHECK.due("public classes", countOf("^public final class LearningAdvisor\\b", code), 1);
        CHECK.due("other public classes", countOf("\\bpublic (static |final |abstract )*(class|record|enum|interface) ",
                code), 1);
        int classes = countOf("^\\s*[a-z ]*\\b(class|record|enum|interface) \\w+", code);
        CHECK.due("more than fifteen classes, where some twelve are fine", Math.max(15, classes), 15);
    }

    private static void methodsAreShort(String code) {
        int length = 0;
        for (String line : code.split("\n")) {
            boolean begins = line.matches("\\s+[\\w\\[\\]<> ]+\\([\\w\\[\\]<>, ]*\\) \\{") && !line.contains(" if ");
            length = begins ? 0 : length + 1;
            if (line.matches("    (    )?\\}")) {
                CHECK.due("method that ends with " + line + ", lines", Math.max(70, length), 70);
                length = 0;
            }
        }
    }

    private static void parametersAreAtMostSeven(String code) {
        CHECK.due("methods with more than seven parameters", countOf("\\((\\w[\\w\\[\\]<>]* \\w+, ){7,}", code), 0);
    }

    public static void main(String[] args) throws Exception {
        String source = Files.readString(Path.of("src/main/java/LearningAdvisor.java"));
        String code = source.replaceAll("(?s)/\\*.*?\\*/", "").replaceAll("//.*", "");
        nothingRuledOutStands(code);
        staticFieldsAreFinal(code);
        oneFileHoldsAllClasses(code);
        methodsAreShort(code);
        parametersAreAtMostSeven(code);
        CHECK.end();
    }
}
