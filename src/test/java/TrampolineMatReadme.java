import java.io.IOException;
import java.lang.reflect.Method;
import java.lang.reflect.Modifier;
import java.nio.file.DirectoryStream;
import java.nio.file.Files;
import java.nio.file.Path;
import java.util.regex.Matcher;
import java.util.regex.Pattern;

/** README.md tells the truth: each answer of its example is the class's, and it names every call of the face and every test. */
public final class TrampolineMatReadme {
    private static final Pattern CALL = Pattern.compile("x\\.(\\w+)\\(([^)]*)\\);\\s*// (-?\\d+)\\b.*");
    private static final String EXAMPLE = "```java\nTrampolineMat x = new TrampolineMat();\n";
    private static int wrong = 0;

    public static void main(String[] args) throws IOException, ReflectiveOperationException {
        String page = Files.readString(Path.of("README.md"));
        example(page);
        calls(page);
        tests(page);
        System.out.println(wrong == 0 ? "README.md is true" : wrong + " things of README.md are not true");
        if (wrong != 0) System.exit(1);
    }

    private static void due(boolean right, String what) {
        if (!right) {
            wrong++;
            System.out.println("README.md: " + what);
        }
    }

    private static void example(String page) throws ReflectiveOperationException {
        int from = page.indexOf(EXAMPLE);
        int to = page.indexOf("```", from + EXAMPLE.length());
        due(from >= 0 && to > from, "there is no example");
        if (wrong > 0) return;
        TrampolineMat x = new TrampolineMat();
        int many = 0;
        for (String line : page.substring(from + EXAMPLE.length(), to).split("\n")) {
            if (line.isBlank() || line.startsWith("//")) continue;
            Matcher call = CALL.matcher(line);
            due(call.matches(), "no call with its answer: " + line);
            if (call.matches()) due(answer(x, call).equals(call.group(3)), "not so: " + line);
            many++;
        }
        due(many >= 10, "the example has but " + many + " calls");
    }

    private static String answer(TrampolineMat x, Matcher call) throws ReflectiveOperationException {
        String[] told = call.group(2).isEmpty() ? new String[0] : call.group(2).split(", ");
        Class<?>[] types = new Class<?>[told.length];
        Object[] numbers = new Object[told.length];
        for (int i = 0; i < told.length; i++) {
            types[i] = int.class;
            numbers[i] = Integer.decode(told[i]);
        }
        return String.valueOf(TrampolineMat.class.getMethod(call.group(1), types).invoke(x, numbers));
    }

    private static void calls(String page) {
        for (Method m : TrampolineMat.class.getDeclaredMethods()) {
            if (Modifier.isPublic(m.getModifiers())) due(page.contains("`" + m.getName() + "`"), m.getName() + " is not named");
        }
    }

    private static void tests(String page) throws IOException {
        due(page.contains("\n.ci/run\n"), "it doesn't say how the tests are run");
        try (DirectoryStream<Path> files = Files.newDirectoryStream(Path.of("src/test/java"), "*.java")) {
            for (Path file : files) due(page.contains("`src/test/java/" + file.getFileName() + "`"), file + " is not named");
        }
    }
}
