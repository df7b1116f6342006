import java.io.IOException;
import java.lang.reflect.Constructor;
import java.lang.reflect.Field;
import java.lang.reflect.Method;
import java.lang.reflect.Modifier;
import java.nio.charset.StandardCharsets;
import java.nio.file.Files;
import java.nio.file.Path;
import java.util.ArrayList;
import java.util.HashSet;
import java.util.List;
import java.util.Set;

/** The public face by reflection, and the rules of LANGUAGE.md that a look at the text can tell. */
final class FaceTests {
    private static final String INDEX = "IndexOutOfBoundsException";
    private static final String ARGUMENT = "IllegalArgumentException";
    private static final String STATE = "IllegalStateException";

    private final Check check;

    FaceTests(Check check) {
        this.check = check;
    }

    void run(String source) throws IOException {
        face();
        String text = Files.readString(Path.of(source), StandardCharsets.UTF_8);
        words(text);
        lengths(text);
    }

    private static String row(String name, String parameters, String... thrown) {
        return name + "(" + parameters + ")" + String.join(",", thrown);
    }

    private void face() {
        check.at("the face");
        Set<String> due = new HashSet<>(List.of(
                row("int film", "int,int", ARGUMENT, STATE), row("int seats", "int,int", INDEX, ARGUMENT),
                row("int set", "int,int", INDEX, ARGUMENT),
                row("int show", "int,int,int,int", INDEX, ARGUMENT, STATE), row("int callOff", "int", INDEX),
                row("int move", "int,int", INDEX, ARGUMENT, STATE),
                row("int guest", "int,int,int", INDEX, ARGUMENT, STATE), row("int attend", "int,int", INDEX, STATE),
                row("int vote", "int,int,int", INDEX, ARGUMENT, STATE), row("int append", "int", ARGUMENT, STATE),
                row("int clearBuffer", ""), row("int firstError", ""), row("int program", "", ARGUMENT),
                row("int stopped", "int", ARGUMENT), row("int undo", "", STATE), row("int keep", ""),
                row("int restore", "", STATE), row("int filmOf", "int,int", INDEX, ARGUMENT),
                row("int showing", "int,int", INDEX, ARGUMENT), row("int reel", "int,int", INDEX, ARGUMENT),
                row("int runs", "int,int", INDEX, ARGUMENT), row("int screen", "int,int", INDEX, ARGUMENT),
                row("int guestOf", "int,int", INDEX, ARGUMENT), row("int juror", "int,int", INDEX, ARGUMENT),
                row("int count", "int", ARGUMENT), row("int whyNot", "int,int,int,int,int", INDEX, ARGUMENT),
                row("int nextStart", "int,int,int", INDEX, ARGUMENT),
                row("int bestScreen", "int,int", INDEX, ARGUMENT),
                row("int ifShown", "int,int,int", INDEX, ARGUMENT), row("double use", "int", INDEX),
                row("long digest", "")));
        Set<String> names = new HashSet<>();
        Set<String> found = new HashSet<>();
        for (Method method : ReelScreens.class.getDeclaredMethods()) {
            if (Modifier.isPublic(method.getModifiers())) {
                found.add(rowOf(method));
                names.add(method.getName());
                check.holds(method + " is static", !Modifier.isStatic(method.getModifiers()));
            }
        }
        check.holds("methods " + found, found.equals(due));
        check.holds("final", Modifier.isFinal(ReelScreens.class.getModifiers()));
        check.same("NONE", ReelScreens.NONE, -1);
        hidden(ReelScreens.class, names);
        for (Class<?> inside : ReelScreens.class.getDeclaredClasses()) {
            check.holds(inside + " is private and static", Modifier.isPrivate(inside.getModifiers())
                    && Modifier.isStatic(inside.getModifiers()));
            for (Method method : inside.getDeclaredMethods()) {
                check.holds(method + " has a name of the face", !names.contains(method.getName()));
            }
        }
    }

    private void hidden(Class<?> type, Set<String> names) {
        for (Method method : type.getDeclaredMethods()) {
            check.holds(method + " is seen", Modifier.isPublic(method.getModifiers())
                    || Modifier.isPrivate(method.getModifiers()) && !names.contains(method.getName()));
        }
        for (Field field : type.getDeclaredFields()) {
            check.holds(field + " is seen", Modifier.isPrivate(field.getModifiers()) || field.getName().equals("NONE"));
        }
        for (Constructor<?> constructor : type.getDeclaredConstructors()) {
            check.holds(constructor + "", Modifier.isPublic(constructor.getModifiers())
                    && constructor.getParameterCount() == 0);
        }
    }

    private static String rowOf(Method method) {
        List<String> parameters = new ArrayList<>();
        for (Class<?> parameter : method.getParameterTypes()) {
            parameters.add(parameter.getName());
        }
        List<String> thrown = new ArrayList<>();
        for (Class<?> exception : method.getExceptionTypes()) {
            thrown.add(exception.getSimpleName());
        }
        return row(method.getReturnType() + " " + method.getName(), String.join(",", parameters),
                thrown.toArray(new String[0]));
    }

    private void words(String text) {
        check.at("LANGUAGE.md, words");
        String bare = text.replaceAll("(?s)/\\*.*?\\*/", "").replaceAll("//[^\n]*", "");
        String[] out = {"->", "::", "import ", "package ", "try ", "catch ", "finally", "synchronized", "assert ",
            "Double.", "Exact(", "NaN", "toString", "hashCode", "equals(", "Object ", "Thread", "System.out",
            "System.nano", "System.current", "Random", "instanceof", "float ", "var ", "volatile", "transient"};
        for (String word : out) {
            check.holds("the text has " + word, !bare.contains(word));
        }
        for (int i = 0; i < text.length(); i++) {
            char sign = text.charAt(i);
            if (sign != '\n' && (sign < 32 || sign > 126)) {
                check.holds("the sign " + (int) sign, false);
            }
        }
    }

    /** Methods of at most 60 lines, as the indents show them. */
    private void lengths(String text) {
        check.at("LANGUAGE.md, lengths");
        String[] lines = text.split("\n");
        int begin = -1;
        String indent = "";
        for (int i = 0; i < lines.length; i++) {
            if (begin < 0 && lines[i].matches("( {4}| {8})[a-zA-Z].*[({,].*") && !lines[i].endsWith(";")
                    && !lines[i].contains(" class ") && lines[i].contains("(")) {
                begin = i;
                indent = lines[i].replaceAll("\\S.*", "");
            } else if (begin >= 0 && lines[i].equals(indent + "}")) {
                check.holds("the method at line " + (begin + 1) + " is long", i - begin < 60);
                begin = -1;
            }
            check.holds("line " + (i + 1) + " is long", lines[i].length() <= 120);
        }
    }
}
