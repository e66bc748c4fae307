import java.io.ByteArrayOutputStream;
import java.io.IOException;
import java.io.PrintStream;
import java.lang.reflect.Method;
import java.lang.reflect.Modifier;
import java.nio.file.Files;
import java.nio.file.Path;

/** README.md: its example prints what it says, and it tells every call of the face and every test. */
public final class ReadmeTest {
    private static final Path TESTS = Path.of("src/test/java");

    public static void main(String[] args) throws IOException {
        String readme = Files.readString(Path.of("README.md"));
        int start = readme.indexOf("```java\n") + 8;
        String lines = readme.substring(start, readme.indexOf("```", start));
        String own = Files.readString(TESTS.resolve("ReadmeTest.java"));
        Check.due("the example stands below", own.contains("example() {\n" + lines.indent(8) + "    }\n"), true);
        Check.due("the example", printed(), "1. e4 e5 (1... c5 2. Nf3) *");
        for (Method method : MoveTexts.class.getDeclaredMethods()) {
            if (Modifier.isPublic(method.getModifiers())) {
                Check.due("README.md tells " + method.getName(), readme.contains("`" + method.getName() + "("), true);
            }
        }
        for (String file : TESTS.toFile().list()) {
            String name = "`" + file.replace(".java", "`");
            Check.due("README.md tells " + name, readme.contains(name), true);
        }
        Check.close("ReadmeTest");
    }

    private static String printed() {
        PrintStream usual = System.out;
        ByteArrayOutputStream bytes = new ByteArrayOutputStream();
        System.setOut(new PrintStream(bytes));
        example();
        System.setOut(usual);
        return bytes.toString();
    }

    /** To the letter as in README.md. */
    private static void example() {
        MoveTexts x = new MoveTexts();
        String text = "1. e4 e5 (1... c5) *";
        for (int i = 0; i < text.length(); i++) {
            x.type(text.charAt(i), 1);
        }
        int fault = x.read();          // 0, or 10000 * kind of fault + place
        x.go(3);                       // behind 1... c5
        x.add(6 + 64 * 21);            // Nf3: from g1 + 64 * to f3
        int length = x.write();        // OUT: 1. e4 e5 (1... c5 2. Nf3) *
        for (int i = 0; i < length; i++) {
            System.out.print((char) x.out(i));
        }
    }
}
