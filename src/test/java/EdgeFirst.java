import java.io.ByteArrayOutputStream;
import java.io.PrintStream;
import java.lang.reflect.Field;
import java.lang.reflect.Method;
import java.lang.reflect.Modifier;
import java.util.Arrays;
import java.util.Comparator;

/** What the document says first and last: what it is, the class of the face, and what is not promised. */
final class EdgeFirst {
    private final Edges e;

    EdgeFirst(Edges edges) {
        e = edges;
    }

    void run() {
        e.heading("What it is");
        e.test("films of reels of which there is one print each", this::onePrintOfEachReel);
        e.test("screens with seats", this::screensWithSeats);
        e.test("showings with a break", this::showingsWithABreak);
        e.test("reels that are carried from one screen to another", this::reelsAreCarried);
        e.test("turnaround between two showings of a screen", this::turnaround);
        e.test("reasons against a showing with the reel that stands in the way", this::reasonsWithTheReel);
        e.test("guests who come and go by train and want to greet behind a showing", this::guestsGreet);
        e.test("jurors who go to showings and give points, prizes", this::jurorsAndPrizes);
        e.test("what runs at a minute, minutes counted in two ways", this::minutesInTwoWays);
        e.test("the next time at which a film can be shown, the best screen", this::nextTimeAndBestScreen);
        e.test("showings that are moved and called off", this::movedAndCalledOff);
        e.test("what would be", this::whatWouldBe);
        e.test("showings as texts with errors by place and the reason of a stop", this::texts);
        e.test("undo, and one snapshot", this::undoAndOneSnapshot);
        e.test("An object is used for at most 512 calls after it has been made", this::all512CallsAnswer);
        e.test("what later calls answer is free", this::laterCallsFailByNothingElse);
        e.heading("The public face");
        e.test("public final class ReelScreens {", this::theClass);
        e.test("public static final int NONE = -1;", () -> e.same("NONE", ReelScreens.NONE, -1));
        e.heading("Not promised");
        e.test("How the state is held inside the object is free, as are the speed of each call, the text of toString"
                + " and the behaviour of equals and hashCode.", this::theStateIsHidden);
        e.test("Use of one object from several threads at once is not promised to be safe.",
                this::objectsShareNothing);
        e.test("Nothing is promised beyond the answers and state changes described above", this::nothingIsPrinted);
        e.test("and nothing about an object after its 512th call.", this::otherObjectsStay);
    }

    private void onePrintOfEachReel() {
        e.refused("the same film", Check.STATE, () -> Makers.shownAt(100), x -> x.show(0, 1, 100, 0));
        ReelScreens x = Makers.shownAt(100);
        e.same("another film", x.film(1, 10), 1);
        e.same("another film at the same time", x.show(1, 1, 100, 0), 1);
    }

    private void screensWithSeats() {
        ReelScreens x = Makers.shownAt(100, 200, 300);
        e.same("all seats", x.count(4), 600);
        x.seats(2, 50);
        e.same("all seats", x.count(4), 350);
        e.same("of the film on it", x.filmOf(2, 3), 50);
    }

    private void showingsWithABreak() {
        ReelScreens x = Makers.empty();
        x.film(3, 10);
        x.show(0, 2, 40, 20);
        e.same("reel 1", x.runs(2, 59), 1);
        e.same("the break", x.runs(2, 60), ReelScreens.NONE);
        e.same("the break", x.runs(2, 79), ReelScreens.NONE);
        e.same("reel 2", x.runs(2, 80), 2);
        e.same("end", x.showing(0, 3), 90);
    }

    private void reelsAreCarried() {
        ReelScreens x = Makers.shownAt(100);
        x.set(0, 7);
        e.same("on another screen", x.nextStart(0, 1, 84), 117);
        e.same("in time ahead", x.nextStart(0, 1, 83), 83);
    }

    private void turnaround() {
        ReelScreens x = Makers.shownAt(100);
        x.set(1, 9);
        e.same("on its screen", x.nextStart(0, 0, 82), 119);
        e.same("in time ahead", x.nextStart(0, 0, 81), 81);
    }

    private void reasonsWithTheReel() {
        ReelScreens x = Makers.bare();
        x.film(3, 20);
        x.show(1, 0, 100, 0);
        e.same("reason", x.whyNot(1, 1, 159, 0, 0), 0);
        e.row("reason, showing, reel", (y, what) -> y.whyNot(1, 1, 110, 20, what), x, 4, 0, 0);
        e.row("reason, showing, reel", (y, what) -> y.whyNot(1, 2, 70, 20, what), x, 4, 0, 2);
        e.row("reason, showing, reel", (y, what) -> y.whyNot(1, 0, 110, 20, what), x, 3, 0, -1);
    }

    private void guestsGreet() {
        ReelScreens x = Makers.shownAt(100, 200);
        x.guest(1, 210, 220);
        x.guest(1, 211, 300);
        x.guest(1, 100, 219);
        e.same("guests", x.count(2), 3);
        e.same("guests who greet", x.count(3), 1);
        e.same("behind the showing", x.guestOf(0, 3), 1);
    }

    private void jurorsAndPrizes() {
        ReelScreens x = Makers.shownAt(100, 200);
        x.attend(0, 0);
        x.attend(1, 0);
        x.attend(0, 1);
        x.vote(0, 1, 10);
        x.vote(1, 0, 3);
        e.same("points", x.filmOf(1, 5), 10);
        e.same("the prize is for what two have seen", x.count(6), 0);
        x.attend(2, 1);
        e.same("the prize", x.count(6), 1);
    }

    private void minutesInTwoWays() {
        ReelScreens x = Makers.rich();
        for (int screen = 0; screen < 3; screen++) {
            int minutes = 0;
            for (int minute = 0; minute < 2000; minute++) {
                minutes += x.runs(screen, minute) == ReelScreens.NONE ? 0 : 1;
            }
            e.same("reckoned", x.screen(screen, 2), minutes);
            e.same("counted", x.screen(screen, 3), minutes);
        }
    }

    private void nextTimeAndBestScreen() {
        ReelScreens x = Makers.shownAt(100);
        e.same("screen 0", x.nextStart(0, 0, 100), 125);
        e.same("screen 1", x.nextStart(0, 1, 100), 120);
        e.same("screen 2", x.nextStart(0, 2, 100), 120);
        e.same("the best", x.bestScreen(0, 100), 2);
    }

    private void movedAndCalledOff() {
        ReelScreens x = Makers.shownAt(100, 200);
        e.same("move", x.move(0, 500), 0);
        e.same("start", x.showing(0, 2), 500);
        e.same("callOff", x.callOff(0), 0);
        e.same("showings", x.count(1), 1);
        e.same("start", x.showing(0, 2), 200);
        e.same("called off", x.count(5), 1);
    }

    private void whatWouldBe() {
        e.look(Makers::rich, x -> x.whyNot(0, 0, 100, 0, 0));
        e.look(Makers::rich, x -> x.nextStart(0, 0, 100));
        e.look(Makers::rich, x -> x.bestScreen(0, 100));
        e.look(Makers::rich, x -> x.ifShown(0, 0, 900));
        ReelScreens x = Makers.rich();
        int more = x.ifShown(2, 0, 900);
        int greeters = x.count(3);
        x.show(2, 0, 900, 0);
        e.same("it is so then", x.count(3), greeters + more);
    }

    private void texts() {
        ReelScreens x = Makers.shownAt(100);
        PlanTests.write(x, "0/1@500;0/1x");
        e.same("the place of the error", x.firstError(), 11);
        x.clearBuffer();
        PlanTests.write(x, "0/1@500;0/2@505");
        e.same("made", x.program(), 1);
        e.row("part, reason, showing", ReelScreens::stopped, x, 1, 4, 1);
    }

    private void undoAndOneSnapshot() {
        ReelScreens x = Makers.shownAt(100);
        x.keep();
        x.film(6, 25);
        x.keep();
        x.film(6, 24);
        e.same("films", x.count(0), 3);
        x.restore();
        e.same("films of the later snapshot", x.count(0), 2);
        x.undo();
        e.same("films", x.count(0), 3);
    }

    private void all512CallsAnswer() {
        ReelScreens x = Makers.bare();
        for (int i = 0; i < 253; i++) {
            e.same("show", x.show(0, i % 3, i, 0), 0);
            e.same("callOff", x.callOff(0), 0);
        }
        e.same("the 512th call", x.count(5), 253);
        ReelScreens y = Makers.empty();
        int before = 100;
        for (int i = 0; i < 511; i++) {
            e.same("seats", y.seats(0, 50 + i % 351), before);
            before = 50 + i % 351;
        }
        e.same("the 512th call", y.undo(), 5);
    }

    private void laterCallsFailByNothingElse() {
        e.same("calls that failed by the machine", failuresIn(Makers.rich(), 6000), 0);
    }

    private void theClass() {
        Class<?> face = ReelScreens.class;
        e.holds("public", Modifier.isPublic(face.getModifiers()));
        e.holds("final", Modifier.isFinal(face.getModifiers()));
        e.holds("without a package", face.getPackageName().isEmpty());
        e.holds("of nothing else", face.getSuperclass() == Object.class && face.getInterfaces().length == 0);
    }

    private void theStateIsHidden() {
        for (Field field : ReelScreens.class.getDeclaredFields()) {
            e.holds(field + " can be seen", Modifier.isPrivate(field.getModifiers()) || field.getName().equals("NONE"));
        }
        for (Method method : ReelScreens.class.getMethods()) {
            if (method.getName().matches("toString|equals|hashCode")) {
                e.holds(method + " is the class's own", method.getDeclaringClass() == Object.class);
            }
        }
        e.look(Makers::rich, x -> x.toString().length() + x.hashCode() + (x.equals(x) ? 1 : 0));
    }

    private void objectsShareNothing() {
        long due = digestOfRun();
        long[] digests = new long[4];
        Thread[] threads = new Thread[digests.length];
        for (int i = 0; i < threads.length; i++) {
            int number = i;
            threads[i] = new Thread(() -> digests[number] = digestOfRun());
            threads[i].start();
        }
        for (int i = 0; i < threads.length; i++) {
            try {
                threads[i].join();
            } catch (InterruptedException stopped) {
                e.holds("the thread was stopped", false);
            }
            e.same("an object of one thread", digests[i], due);
        }
    }

    private static long digestOfRun() {
        ReelScreens x = Makers.rich();
        long digest = 0;
        for (int start = 0; start < 100; start++) {
            int next = start;
            Check.kindOf(() -> x.show(next % 3, next % 2, 20 * next, next % 21));
            Check.kindOf(() -> x.callOff(next % 5));
            digest = 31 * digest + x.digest();
        }
        return digest;
    }

    private void nothingIsPrinted() {
        PrintStream out = System.out;
        PrintStream err = System.err;
        ByteArrayOutputStream printed = new ByteArrayOutputStream();
        PrintStream kept = new PrintStream(printed);
        try {
            System.setOut(kept);
            System.setErr(kept);
            failuresIn(Makers.rich(), 400);
        } finally {
            System.setOut(out);
            System.setErr(err);
        }
        kept.flush();
        e.same("printed", printed.size(), 0);
    }

    private void otherObjectsStay() {
        ReelScreens x = Makers.rich();
        ReelScreens y = Makers.rich();
        failuresIn(x, 2000);
        e.sameAll("another object was changed", y, Makers.rich());
    }

    /** Calls the methods by turns; counts what is thrown but not named by their throws clauses. */
    private static int failuresIn(ReelScreens x, int calls) {
        Method[] methods = ReelScreens.class.getDeclaredMethods();
        Arrays.sort(methods, Comparator.comparing(Method::getName));
        int failures = 0;
        long seed = 7;
        for (int call = 0; call < calls; call++) {
            seed = seed * 6364136223846793005L + 1442695040888963407L;
            Method method = methods[(int) ((seed >>> 33) % methods.length)];
            if (!Modifier.isPublic(method.getModifiers())) {
                continue;
            }
            Object[] arguments = new Object[method.getParameterCount()];
            for (int i = 0; i < arguments.length; i++) {
                seed = seed * 6364136223846793005L + 1442695040888963407L;
                int value = (int) (seed >>> 32);
                arguments[i] = call % 7 == 0 ? value : Math.floorMod(value, call % 3 == 0 ? 70 : 8) - 1;
            }
            failures += WildTests.isNamed(method, x, arguments) ? 0 : 1;
        }
        return failures;
    }
}
