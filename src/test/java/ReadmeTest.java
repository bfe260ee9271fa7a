import java.io.File;
import java.io.IOException;
import java.lang.reflect.InvocationTargetException;
import java.net.URL;
import java.net.URLClassLoader;
import java.nio.file.Files;
import java.nio.file.Path;
import java.util.ArrayList;
import java.util.List;
import java.util.regex.Matcher;
import java.util.regex.Pattern;
import java.util.spi.ToolProvider;

/** The example of README.md: each call in it that a number or an exception stands behind must answer so. */
public final class ReadmeTest {
    private static final Path README = Path.of("README.md");
    private static final Pattern EXAMPLE = Pattern.compile("(?s)```java\n(.*?)```");
    private static final Pattern ANSWERS = Pattern.compile("(?:int (\\w+) = )?(\\w.*);\\s*// (-?[\\d.]+): .*");
    private static final Pattern THROWS = Pattern.compile("(\\w.*);\\s*// throws (\\w+): .*");

    private static final Check check = new Check();

    public static void main(String[] args) throws IOException, ReflectiveOperationException {
        Matcher example = EXAMPLE.matcher(Files.readString(README));
        check.holds("there is an example", example.find());
        if (ToolProvider.findFirst("javac").isEmpty()) {
            System.out.println("there is no javac inside of java: the example is not run");
        } else {
            run(example.group(1));
        }
        check.finish();
    }

    private static void run(String example) throws IOException, ReflectiveOperationException {
        Path out = Files.createTempDirectory("readme");
        Path source = out.resolve("Example.java");
        try {
            Files.writeString(source, program(example));
            String path = System.getProperty("java.class.path");
            int fault = ToolProvider.findFirst("javac").orElseThrow()
                    .run(System.out, System.out, "-cp", path, "-d", out.toString(), source.toString());
            check.same("javac with the example", 0, fault);
            if (fault == 0) {
                start(out);
            }
        } finally {
            for (File file : out.toFile().listFiles()) {
                file.delete();
            }
            out.toFile().delete();
        }
    }

    private static void start(Path out) throws IOException, ReflectiveOperationException {
        List<String> told = new ArrayList<>();
        try (URLClassLoader loader = new URLClassLoader(new URL[] {out.toUri().toURL()})) {
            loader.loadClass("Example").getMethod("run", List.class).invoke(null, told);
        } catch (InvocationTargetException e) {
            check.complain("the example threw " + e.getCause());
        }
        check.holds("the example asks something", told.size() > 1);
        for (int line = 0; line + 2 < told.size(); line += 3) {
            check.holds(told.get(line) + " answered " + told.get(line + 2) + ", so it",
                    told.get(line + 1).equals(told.get(line + 2)));
        }
    }

    /** The example as a program that lists each line with the answer that it tells, and the one that it gets. */
    private static String program(String example) {
        StringBuilder code = new StringBuilder("import java.util.*;\npublic final class Example {\n"
                + "public static void run(List<String> told) {\n");
        for (String line : example.split("\n")) {
            Matcher answers = ANSWERS.matcher(line);
            Matcher refused = THROWS.matcher(line);
            if (answers.matches()) {
                String name = answers.group(1);
                String call = name == null ? answers.group(2) : name;
                code.append(name == null ? "" : "int " + name + " = " + answers.group(2) + ";\n");
                code.append(tell(line, answers.group(3), "String.valueOf(" + call + ")"));
            } else if (refused.matches()) {
                code.append("try {\n").append(refused.group(1)).append(";\n");
                code.append(tell(line, refused.group(2), "\"nothing thrown\""));
                code.append("} catch (RuntimeException e) {\n");
                code.append(tell(line, refused.group(2), "e.getClass().getSimpleName()"));
                code.append("}\n");
            } else {
                check.holds("no answer that is not asked for: " + line, !line.contains("//"));
                code.append(line).append('\n');
            }
        }
        return code.append("}\n}\n").toString();
    }

    private static String tell(String line, String due, String got) {
        String quoted = line.replace("\\", "\\\\").replace("\"", "\\\"");
        return "told.addAll(List.of(\"" + quoted + "\", \"" + due + "\", " + got + "));\n";
    }
}
