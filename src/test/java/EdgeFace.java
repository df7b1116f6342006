import java.util.regex.Matcher;
import java.util.regex.Pattern;

/** The face as DOC.md writes it, against the program's text. */
final class EdgeFace {
    private final Edges e;
    private final String source;

    EdgeFace(Edges edges, String source) {
        e = edges;
        this.source = source;
    }

    void run(String document) {
        e.heading("The public face");
        Matcher line = Pattern.compile("(?m)^ +(public .*);$").matcher(document);
        while (line.find()) {
            String declared = line.group(1);
            e.test(declared, () -> e.holds("the program does not declare it", bare(source).contains(bare(declared))));
        }
        e.heading("Exceptions");
        Matcher ahead = Pattern.compile("(?m)^Ahead of the calls (.*) the interface says: (.*)\\.$").matcher(document);
        while (ahead.find()) {
            String calls = ahead.group(1);
            String comment = ahead.group(2);
            e.test(ahead.group(), () -> standsAhead(comment, calls));
        }
    }

    private static String bare(String text) {
        return text.replaceAll("\\s", "");
    }

    /** The comment stands ahead of these calls, with no other such comment between. */
    private void standsAhead(String comment, String calls) {
        int begin = source.indexOf("// " + comment + "\n");
        e.holds("the program does not say it", begin >= 0);
        int end = source.indexOf("// ----", begin + 1);
        String part = source.substring(Math.max(0, begin), end < 0 ? source.length() : end);
        for (String call : calls.replace("`", "").split(", ")) {
            e.holds(call + " does not stand there", Pattern.compile("public \\w+ " + call + "\\(").matcher(part).find());
        }
    }
}
