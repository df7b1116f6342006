import java.io.IOException;
import java.nio.charset.StandardCharsets;
import java.nio.file.Files;
import java.nio.file.Path;

/** Runs every test of the project; its arguments are the paths of the program's text, DOC.md and README.md. */
public final class AllTests {
    public static void main(String[] arguments) throws IOException {
        Check check = new Check();
        new PlanTests(check).run();
        new PeopleTests(check).run();
        new TextTests(check).run();
        new LookTests(check).run();
        new DigestTests(check).run();
        new WildTests(check).run();
        new RandomRuns(check).run();
        new FaceTests(check).run(arguments[0]);
        edges(check, textOf(arguments[0]), textOf(arguments[1]));
        new ReadmeTests(check).run(textOf(arguments[2]), textOf(arguments[1]));
        System.out.println("checks: " + check.passed() + " as due, " + check.failed() + " not");
        System.exit(check.failed() == 0 && check.passed() > 0 ? 0 : 1);
    }

    private static String textOf(String path) throws IOException {
        return Files.readString(Path.of(path), StandardCharsets.UTF_8);
    }

    private static void edges(Check check, String source, String text) {
        Document document = new Document(text);
        Edges edges = new Edges(check, document);
        new EdgeFace(edges, source).run(text);
        new EdgeFirst(edges).run();
        new EdgeTerms(edges).run();
        new EdgePlan(edges).run();
        new EdgePeople(edges).run();
        new EdgeTexts(edges).run();
        new EdgeLooks(edges).run();
        new EdgeWhatIf(edges).run();
        check.at("DOC.md");
        for (String sentence : document.unnamed()) {
            check.holds("no test names the sentence: " + sentence, false);
        }
    }
}
