import java.io.IOException;
import java.lang.reflect.Method;
import java.lang.reflect.Modifier;
import java.nio.file.Files;
import java.nio.file.Path;
import java.util.List;
import java.util.Set;
import java.util.TreeSet;
import java.util.regex.Matcher;
import java.util.regex.Pattern;
import java.util.stream.Stream;

/**
 * Makes a test, ReadmeExample, of the example in README.md and prints it: each answer that the
 * README tells behind a call must be the class's own. The class's answer is written as
 * "// number: why"; a call at a line's beginning that has none is a fault of the README.
 */
final class ReadmeSource {
    private static final Pattern ANSWERED =
        Pattern.compile("(?:(?:int|long) (\\w+) = )?(x\\..+\\));\\s*// (-?[0-9]+): .+");
    private static final Pattern CALL = Pattern.compile("(?:(?:int|long) \\w+ = )?x\\..*");

    private static final Set<String> ANSWERS = new TreeSet<>();

    public static void main(String[] args) throws IOException {
        List<String> lines = Files.readAllLines(Path.of("README.md"));
        System.out.println("public final class ReadmeExample {");
        System.out.println("    private static final Due DUE = new Due(\"README.md\");");
        System.out.println("    public static void main(String[] args) {");
        boolean isExample = false;
        for (String line : lines) {
            if (line.startsWith("```")) {
                isExample = line.equals("```java");
            } else if (isExample) {
                System.out.println(tested(line));
            }
        }
        for (Method method : SalvageOfDays.class.getDeclaredMethods()) {
            if (Modifier.isPublic(method.getModifiers())) {
                String name = method.getName();
                isTrue("the example tells an answer of " + name, ANSWERS.contains(name));
            }
        }
        namesEachTest(String.join("\n", lines));
        System.out.println("DUE.end();");
        System.out.println("    }");
        System.out.println("}");
    }

    private static void namesEachTest(String readme) throws IOException {
        try (Stream<Path> files = Files.list(Path.of("src/test/java"))) {
            for (Path file : files.toList()) {
                String name = file.getFileName().toString().replace(".java", "");
                isTrue("the table or what follows names " + name, readme.contains(name));
            }
        }
    }

    private static String tested(String line) {
        Matcher answered = ANSWERED.matcher(line);
        if (!answered.matches()) {
            if (CALL.matcher(line).matches()) {
                isTrue("no answer is told behind " + line, false);
            }
            return line;
        }
        String name = answered.group(1);
        String call = answered.group(2);
        ANSWERS.add(call.substring("x.".length(), call.indexOf('(')));
        String asked = name == null ? call : name;
        String kept = name == null ? "" : line + "\n";
        return kept + "DUE.is(\"" + quoted(call) + "\", " + asked + ", " + answered.group(3)
            + "L);";
    }

    private static void isTrue(String what, boolean holds) {
        System.out.println("DUE.isTrue(\"" + quoted(what) + "\", " + holds + ");");
    }

    private static String quoted(String text) {
        return text.replace("\\", "\\\\").replace("\"", "\\\"");
    }
}
