import java.io.IOException;
import java.nio.file.Files;
import java.nio.file.Path;
import java.util.regex.Matcher;
import java.util.regex.Pattern;

/** What of the rules of LANGUAGE.md can be seen in the lines of the class. */
public final class LanguageTest {
    private static final Pattern METHOD = Pattern.compile("(?m)^ +(?:[a-zA-Z\\[\\]]+ )+[a-zA-Z]+\\(([^()]*)\\)[^;{]*\\{\\n");

    public static void main(String[] args) throws IOException {
        String source = Files.readString(Path.of("src/main/java/MoveTexts.java"));
        String code = withoutTexts(source);
        rule("1: one file without a package", code, "\\bpackage\\b");
        rule("2: no lambda, no method reference", code, "->|::");
        rule("3: no type but those listed", code, "\\b(Object|Map|Set|Character|Boolean|Long\\[|Optional|Stream|var)\\b");
        rule("4: no library but what is listed", code, "\\bimport\\b|\\bjava\\.|\\bSystem\\.(?!arraycopy)|\\bMath\\.\\w+Exact|\\bString\\.");
        rule("5: static fields are final", code, "\\bstatic (?!final\\b)[\\w\\[\\]]+ \\w+ *[=;]");
        rule("5: no static initialiser", code, "\\bstatic *\\{");
        rule("6: none of these is used", code, "\\b(try|catch|finally|assert|synchronized|instanceof)\\b");
        rule("6: only listed exceptions", code,
            "throw new (?!(IllegalStateException|IllegalArgumentException|IndexOutOfBoundsException|UnsupportedOperationException)\\b)");
        rule("6: no throw but of a new one", code, "\\bthrow (?!new\\b)");
        rule("10: texts are not joined by +", code, "\" *\\+|\\+ *\"");
        rule("13: no clock, no randomness", code, "\\b(Random|Thread|nanoTime|currentTimeMillis|getenv|File)\\b");
        Check.due("at most twelve classes", count(code, "\\b(class|record|enum|interface) [A-Z]") <= 12, true);
        methods(code);
        Check.close("LanguageTest");
    }

    /** The code with its comments, and what stands in texts and characters, left out. */
    private static String withoutTexts(String source) {
        Pattern left = Pattern.compile("(?s)/\\*.*?\\*/|//[^\n]*|'(?:[^'\\\\]|\\\\.)'|\"(?:[^\"\\\\]|\\\\.)*\"");
        return left.matcher(source).replaceAll(found -> {
            char first = found.group().charAt(0);
            return first == '\'' ? "' '" : first == '"' ? "\"\"" : "";
        });
    }

    private static void rule(String name, String code, String never) {
        Matcher found = Pattern.compile(never).matcher(code);
        Check.due("rule " + name, found.find() ? found.group() : "", "");
    }

    private static int count(String code, String pattern) {
        return (int) Pattern.compile(pattern).matcher(code).results().count();
    }

    /** Rule 11: at most seven parameters, some sixty lines. */
    private static void methods(String code) {
        Matcher method = METHOD.matcher(code);
        int seen = 0;
        while (method.find()) {
            if (method.group().matches("(?s) +(else )?(if|for|while|switch|return) .*")) {
                continue;
            }
            seen++;
            String indent = method.group().replaceAll("(?s)\\S.*", "");
            int stop = code.indexOf("\n" + indent + "}\n", method.end() - 1);
            String head = method.group().trim();
            Check.due("lines of " + head, count(code.substring(method.start(), stop), "\n") <= 60, true);
            Check.due("parameters of " + head, method.group(1).split(",").length <= 7, true);
        }
        Check.due("methods were seen", seen > 100, true);
    }
}
