import java.io.IOException;
import java.io.PrintWriter;
import java.io.StringWriter;
import java.nio.file.Files;
import java.nio.file.Path;
import java.util.ArrayList;
import java.util.HashMap;
import java.util.List;
import java.util.Map;
import java.util.Set;
import java.util.TreeSet;
import java.util.regex.Matcher;
import java.util.regex.Pattern;
import java.util.spi.ToolProvider;

/** The rules of ../shared/LANGUAGE.md that a text search or javap can see; the others are for the reader. */
public final class LanguageTest {
    private static final Path SOURCE = Path.of("src/main/java/LentRights.java");
    private static final Set<String> IMPORTS = Set.of("java.util.NoSuchElementException", "java.util.ArrayList",
            "java.util.List", "java.util.Arrays", "java.util.Iterator");
    private static final int DEEPEST = 8;
    private static final int LONGEST = 60;
    private static final Pattern METHOD = Pattern.compile("^  (?:\\S.* )?([\\w$]+)\\(.*\\).*;$");
    private static final Pattern INVOKED = Pattern.compile("// (?:Interface)?Method ([^:]+):");

    private static final Check check = new Check();

    public static void main(String[] args) throws IOException {
        String source = Files.readString(SOURCE);
        words(source);
        lengths(source);
        depth();
        check.finish();
    }

    private static void words(String source) {
        String code = source.replaceAll("(?s)/\\*.*?\\*/", "").replaceAll("//.*", "").replaceAll("\"[^\"]*\"", "\"\"");
        for (String banned : new String[] {"\\bfinally\\b", "->", "::", "\\bassert\\b", "\\bsynchronized\\b",
            "\\bpackage\\b", "\\bwhile *\\(true", "\"\" *\\+", "\\+ *\"\"", "\\w+Exact\\b", "\\btry *\\("}) {
            check.holds("without " + banned, !Pattern.compile(banned).matcher(code).find());
        }
        Matcher imported = Pattern.compile("(?m)^import (.*);$").matcher(code);
        while (imported.find()) {
            check.holds(imported.group(1), IMPORTS.contains(imported.group(1)));
        }
        check.holds("signs from 1 to 127 alone", source.chars().allMatch(sign -> sign > 0 && sign < 128));
    }

    private static void lengths(String source) {
        String[] lines = source.split("\n");
        for (String indent : new String[] {"    ", "        "}) {
            int start = 0;
            for (int line = 0; line < lines.length; line++) {
                if (lines[line].matches(indent + "\\w.*\\(.*") && !lines[line].endsWith(";")) {
                    start = line;
                } else if (lines[line].equals(indent + "}")) {
                    check.holds("a short method at line " + (start + 1), line - start < LONGEST || start == 0);
                    start = 0;
                }
            }
        }
    }

    /** The longest row of calls that stand open at once, the call of the face counted too. */
    private static void depth() {
        if (ToolProvider.findFirst("javap").isEmpty()) {
            System.out.println("there is no javap: the depth of the calls is not measured");
            return;
        }
        Map<String, Set<String>> calls = new HashMap<>();
        List<Class<?>> classes = new ArrayList<>(List.of(LentRights.class.getDeclaredClasses()));
        classes.add(LentRights.class);
        for (Class<?> type : classes) {
            read(type.getName(), calls);
        }
        check.holds("calls were found", !calls.isEmpty());
        int deepest = 0;
        for (String method : calls.keySet()) {
            int depth = depthOf(method, calls, 0);
            deepest = Math.max(deepest, depth);
            check.holds(method + " goes " + depth + " deep, so not too deep: that", depth <= DEEPEST);
        }
        System.out.println("the calls go " + deepest + " deep at most");
    }

    private static void read(String type, Map<String, Set<String>> calls) {
        StringWriter told = new StringWriter();
        PrintWriter writer = new PrintWriter(told);
        String path = System.getProperty("java.class.path");
        ToolProvider.findFirst("javap").orElseThrow().run(writer, writer, "-c", "-p", "-cp", path, type);
        Set<String> invoked = new TreeSet<>();
        for (String line : told.toString().split("\n")) {
            Matcher method = METHOD.matcher(line);
            if (method.find()) {
                invoked = calls.computeIfAbsent(type + "." + method.group(1), name -> new TreeSet<>());
            }
            Matcher call = INVOKED.matcher(line);
            if (call.find()) {
                String name = call.group(1).replace("\"", "");
                invoked.add(name.contains(".") ? name : type + "." + name);
            }
        }
    }

    private static int depthOf(String method, Map<String, Set<String>> calls, int above) {
        if (above > 30) {
            return above;
        }
        int deepest = 0;
        for (String called : calls.getOrDefault(method, Set.of())) {
            deepest = Math.max(deepest, depthOf(called, calls, above + 1));
        }
        return deepest + 1;
    }
}
