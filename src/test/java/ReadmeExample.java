import java.io.IOException;
import java.lang.reflect.Method;
import java.nio.charset.StandardCharsets;
import java.nio.file.Files;
import java.nio.file.Path;
import java.util.ArrayList;
import java.util.List;
import java.util.Set;
import java.util.TreeSet;
import java.util.regex.Matcher;
import java.util.regex.Pattern;

/**
 * Writes the example of README.md as a program of the form that the tests under ../shared/tests have:
 * it prints every call that does not answer as README.md says, and ends with 1 then. Its arguments are
 * the path of README.md and the directory into which the program goes.
 */
public final class ReadmeExample {
    private static final String NAME = "ReadmeExampleRun";
    private static final Pattern BLOCK = Pattern.compile("(?s)### An example\n.*?```java\n(.*?)```");
    private static final Pattern CALL = Pattern.compile(
            "festival\\.((\\w+)\\(.*\\)); +// (throws (\\w+)|NONE|-?[0-9.]+)(: .*)?");

    private final List<String> program = new ArrayList<>();
    private final Set<String> called = new TreeSet<>();
    private final Set<String> thrown = new TreeSet<>();

    public static void main(String[] arguments) throws IOException {
        String readme = Files.readString(Path.of(arguments[0]), StandardCharsets.UTF_8);
        Matcher block = BLOCK.matcher(readme);
        require("README.md has no example", block.find());
        ReadmeExample example = new ReadmeExample();
        for (String line : block.group(1).split("\n")) {
            example.take(line);
        }
        example.requireAll();
        Files.createDirectories(Path.of(arguments[1]));
        Files.writeString(Path.of(arguments[1], NAME + ".java"), example.text(), StandardCharsets.UTF_8);
    }

    private static void require(String what, boolean isRight) {
        if (!isRight) {
            System.out.println(what);
            System.exit(1);
        }
    }

    private void take(String line) {
        Matcher call = CALL.matcher(line);
        if (call.matches()) {
            called.add(call.group(2));
            if (call.group(4) != null) {
                thrown.add(call.group(4));
            }
            addCall(call.group(1), call.group(3));
        } else {
            require("no answer can be read in: " + line, line.isBlank() || line.startsWith("//") || !line.contains("//"));
            program.add(line);
        }
    }

    private void addCall(String call, String due) {
        String want = due.equals("NONE") ? "String.valueOf(ReelScreens.NONE)" : '"' + due + '"';
        program.add("try { got = String.valueOf(festival." + call + "); }");
        program.add("catch (RuntimeException e) { got = \"throws \" + e.getClass().getSimpleName(); }");
        program.add("due(\"" + call.replace("\"", "\\\"") + "\", got, " + want + ");");
    }

    /** An example that leaves a method or an exception out would not say how to use it. */
    private void requireAll() {
        for (Method method : ReelScreens.class.getMethods()) {
            if (method.getDeclaringClass() == ReelScreens.class) {
                require("the example does not call " + method.getName(), called.contains(method.getName()));
                for (Class<?> type : method.getExceptionTypes()) {
                    require("the example does not throw " + type.getSimpleName(),
                            thrown.contains(type.getSimpleName()));
                }
            }
        }
    }

    private String text() {
        return "public final class " + NAME + " {\n"
                + "private static int wrong;\n"
                + "private static void due(String call, String got, String want) {\n"
                + "if (!got.equals(want)) {\n"
                + "wrong++;\n"
                + "System.out.println(\"README.md: \" + call + \" answered \" + got + \", due is \" + want);\n"
                + "}\n"
                + "}\n"
                + "public static void main(String[] arguments) {\n"
                + "String got = \"\";\n"
                + String.join("\n", program) + "\n"
                + "System.out.println(wrong == 0 ? \"README.md's example answers as it says\" : wrong + \" wrong\");\n"
                + "System.exit(wrong == 0 ? 0 : 1);\n"
                + "}\n"
                + "}\n";
    }
}
