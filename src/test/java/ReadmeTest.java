import java.io.IOException;
import java.nio.charset.StandardCharsets;
import java.nio.file.Files;
import java.nio.file.Path;
import java.util.List;
import java.util.regex.Matcher;
import java.util.regex.Pattern;
import javax.tools.ToolProvider;

/** Compiles the examples of README.md, one behind the other, and runs them: a call answers what its comment says. */
public final class ReadmeTest {
    private static final Pattern ANSWER =
            Pattern.compile("(?:int (\\w+) = )?(solver\\..*); *// (-?\\d+|true|false)\\b.*");

    private static int answers = 0;

    private static String quoted(String text) {
        return "\"" + text.replace("\"", "\\\"") + "\"";
    }

    /** A line of an example; with an answer behind it, a check of this answer. */
    private static String checked(String line) {
        Matcher m = ANSWER.matcher(line);
        if (!m.matches()) {
            return line;
        }
        answers++;
        String declared = m.group(1) == null ? "" : "int " + m.group(1) + " = " + m.group(2) + ";\n";
        String asked = m.group(1) == null ? m.group(2) : m.group(1);
        return declared + "check.same(" + quoted(m.group(2)) + ", " + quoted(m.group(3)) + ", \"\" + (" + asked + "));";
    }

    private static String program(List<String> readme) {
        StringBuilder all = new StringBuilder("final class ReadmeExamples implements Runnable {\npublic void run() {\n");
        all.append("Check check = new Check();\n");
        boolean inside = false;
        for (String line : readme) {
            if (line.startsWith("```")) {
                inside = line.equals("```java");
            } else if (inside) {
                all.append(checked(line)).append('\n');
            }
        }
        return all.append("check.close(\"examples of the readme\");\n}\n}\n").toString();
    }

    private static Runnable compiled(String program, Path place) throws IOException, ReflectiveOperationException {
        Path source = place.resolve("ReadmeExamples.java");
        Files.writeString(source, program, StandardCharsets.UTF_8);
        String classes = System.getProperty("java.class.path");
        int failed = ToolProvider.getSystemJavaCompiler().run(null, null, null, "-cp", classes, "-d", classes,
                source.toString());
        if (failed != 0) {
            System.exit(1);
        }
        return (Runnable) Class.forName("ReadmeExamples").getDeclaredConstructor().newInstance();
    }

    public static void main(String[] args) throws IOException, ReflectiveOperationException {
        Path place = Files.createTempDirectory("readme");
        String program = program(Files.readAllLines(Path.of("README.md"), StandardCharsets.UTF_8));
        Runnable examples = compiled(program, place);
        Files.delete(place.resolve("ReadmeExamples.java"));
        Files.delete(place);
        if (answers < 30) {
            System.out.println("FAILED the readme has examples with answers: " + answers);
            System.exit(1);
        }
        examples.run();
    }
}
