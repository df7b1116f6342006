import java.io.IOException;

/** Runs every test of the project; its argument is the path of the program's text. */
public final class AllTests {
    public static void main(String[] arguments) throws IOException {
        Check check = new Check();
        new PlanTests(check).run();
        new PeopleTests(check).run();
        new TextTests(check).run();
        new LookTests(check).run();
        new DigestTests(check).run();
        new WildTests(check).run();
        new RandomRuns(check).run();
        if (arguments.length > 0) {
            new FaceTests(check).run(arguments[0]);
        }
        System.out.println("checks: " + check.passed() + " as due, " + check.failed() + " not");
        System.exit(check.failed() == 0 && check.passed() > 0 ? 0 : 1);
    }
}
