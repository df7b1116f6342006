import java.lang.reflect.Method;
import java.lang.reflect.Parameter;
import java.util.ArrayList;
import java.util.LinkedHashMap;
import java.util.List;
import java.util.Map;
import java.util.regex.Matcher;
import java.util.regex.Pattern;

/** What README.md says of each call, against DOC.md and the class. */
final class ReadmeTests {
    private static final Pattern README_ENTRY = Pattern.compile("(?s)#### `([^`]+)`\n(.*?)(?=\n#|\\z)");
    private static final Pattern DOC_ENTRY = Pattern.compile(
            "(?s)## Promise \\d+: \\w+\n\n`([^`]+?)( throws [^`]+)?`: (.*?)(?=\n#|\\z)");
    private static final Pattern README_TAKES = Pattern.compile("(?m)^- takes `(\\w+)`: (.*)$");
    private static final Pattern DOC_TAKES = Pattern.compile("(?m)^- `(\\w+)`: (.*)$");
    private static final Pattern README_THROWS = Pattern.compile("(?m)^- throws `(\\w+)`: (.*)$");
    private static final Pattern DOC_THROWS = Pattern.compile("(?m)^Throws `(\\w+)` if (.*)$");

    private final Check check;

    ReadmeTests(Check check) {
        this.check = check;
    }

    void run(String readme, String document) {
        Map<String, String> told = entries(README_ENTRY, 2, readme.replace("\n  ", " "));
        Map<String, String> due = entries(DOC_ENTRY, 3, document);
        due.remove("ReelScreens()");
        check.at("README.md");
        check.same("calls", told.size(), 31);
        check.holds("calls " + told.keySet(), new ArrayList<>(told.keySet()).equals(new ArrayList<>(due.keySet())));
        check.holds("the command of the tests", readme.contains("\n    .ci/run\n"));
        for (String signature : due.keySet()) {
            check.at("README.md, " + signature);
            one(told.getOrDefault(signature, ""), due.get(signature));
        }
        check.at("README.md against the class");
        for (Method method : ReelScreens.class.getMethods()) {
            if (method.getDeclaringClass() == ReelScreens.class) {
                beside(method, told);
            }
        }
    }

    private static Map<String, String> entries(Pattern pattern, int group, String text) {
        Map<String, String> found = new LinkedHashMap<>();
        Matcher entry = pattern.matcher(text);
        while (entry.find()) {
            found.put(entry.group(1), entry.group(group));
        }
        return found;
    }

    private void one(String told, String due) {
        check.holds("undoable", told.contains("Undoable") == due.contains("Undoable"));
        check.holds("answers", Pattern.compile("(?m)^- answers: \\S").matcher(told).find());
        Map<String, String> takes = pairs(README_TAKES, told);
        Map<String, String> takesDue = pairs(DOC_TAKES, due);
        check.holds("takes " + takes.keySet(), names(takes).equals(names(takesDue)));
        for (String name : takesDue.keySet()) {
            String numbers = numbersOf(takes.getOrDefault(name, "none"));
            check.holds(name + " takes " + numbers, numbers.equals(numbersOf(takesDue.get(name))));
        }
        check.holds("throws", names(pairs(README_THROWS, told)).equals(names(pairs(DOC_THROWS, due))));
        check.holds("throws nothing", told.contains("- throws nothing") == pairs(DOC_THROWS, due).isEmpty());
    }

    private static Map<String, String> pairs(Pattern pattern, String text) {
        return entries(pattern, 2, text);
    }

    private static List<String> names(Map<String, String> pairs) {
        return new ArrayList<>(pairs.keySet());
    }

    private static String numbersOf(String words) {
        return words.replaceAll("\\D+", " ").strip();
    }

    /** The parameters' types and the exceptions in the order in which the class declares them. */
    private void beside(Method method, Map<String, String> told) {
        String signature = null;
        for (String one : told.keySet()) {
            if (one.matches("\\w+ " + method.getName() + "\\(.*")) {
                signature = one;
            }
        }
        check.holds(method.getName() + " is not told", signature != null);
        if (signature == null) {
            return;
        }
        List<String> types = new ArrayList<>();
        for (Parameter parameter : method.getParameters()) {
            types.add(parameter.getType().getSimpleName());
        }
        String bare = signature.replaceAll(" \\w+(?=[,)])", "");
        check.holds(signature, bare.equals(method.getReturnType().getSimpleName() + " " + method.getName()
                + "(" + String.join(", ", types) + ")"));
        List<String> exceptions = new ArrayList<>();
        for (Class<?> type : method.getExceptionTypes()) {
            exceptions.add(type.getSimpleName());
        }
        check.holds(signature + " throws " + exceptions,
                names(pairs(README_THROWS, told.get(signature))).equals(exceptions));
    }
}
