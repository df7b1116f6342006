import java.math.BigInteger;
import java.util.ArrayList;
import java.util.List;

/** Promises 27 to 32, sentence by sentence: what would be, the use and the digest. */
final class EdgeWhatIf {
    private static final int[] FILMS = {0, 2, -1, 3, Edges.LEAST, Edges.GREATEST};
    private static final int[] SCREENS = {0, 2, -1, 3, Edges.GREATEST};
    private static final int[] MINUTES = {0, 1999, -1, 2000, Edges.LEAST, Edges.GREATEST};

    private final Edges e;

    EdgeWhatIf(Edges edges) {
        e = edges;
    }

    void run() {
        e.heading("Promise 27: whyNot");
        whyNot();
        e.heading("Promise 28: nextStart");
        nextStart();
        e.heading("Promise 29: bestScreen");
        bestScreen();
        e.heading("Promise 30: ifShown");
        ifShown();
        e.heading("Promise 31: use");
        use();
        e.heading("Promise 32: digest");
        digest();
    }

    /** What is due for a film and a screen of three, and a minute. */
    private static int kindOfPlan(int film, int screen, int minute) {
        if (film < 0 || film > 2 || screen < 0 || screen > 2) {
            return Check.INDEX;
        }
        return minute < 0 || minute > 1999 ? Check.ARGUMENT : 0;
    }

    private void why(ReelScreens x, int film, int screen, int start, int pause, int... due) {
        e.row("whyNot(" + film + ", " + screen + ", " + start + ", " + pause + ")",
                (y, what) -> y.whyNot(film, screen, start, pause, what), x, due);
    }

    private void whyNot() {
        e.test("Tells why a showing would be refused.", () -> e.look(Makers::rich, x -> x.whyNot(0, 1, 119, 5, 2)));
        e.test("`film`: its number", () -> {
            e.range(0, 2, Check.INDEX, Makers::rich, (x, film) -> x.whyNot(film, 0, 0, 0, 0));
            e.range(0, 7, Check.INDEX, Makers::eightFilms, (x, film) -> x.whyNot(film, 0, 0, 0, 0));
            e.refused("the film 0 of none", Check.INDEX, Makers::empty, x -> x.whyNot(0, 0, 0, 0, 0));
        });
        e.test("`screen`: 0 to 2",
                () -> e.range(0, 2, Check.INDEX, Makers::rich, (x, screen) -> x.whyNot(0, screen, 0, 0, 1)));
        e.test("`start`: 0 to 1999",
                () -> e.range(0, 1999, Check.ARGUMENT, Makers::rich, (x, start) -> x.whyNot(0, 0, start, 0, 0)));
        e.test("`pause`: 0 to 20",
                () -> e.range(0, 20, Check.ARGUMENT, Makers::rich, (x, pause) -> x.whyNot(0, 0, 0, pause, 0)));
        e.test("`what`: 0: the reason, 1 to 4, 0 if it would not be refused", () -> {
            why(Makers.twelveShowings(), 0, 0, 1999, 20, 1, -1, -1);
            why(Makers.rich(), 0, 0, 1981, 0, 2, -1, -1);
            why(Makers.rich(), 0, 0, 1980, 1, 2, -1, -1);
            why(Makers.rich(), 1, 0, 139, 0, 3, 0, -1);
            why(Makers.rich(), 0, 1, 119, 5, 4, 0, 0);
            why(Makers.rich(), 0, 0, 1980, 0, 0, -1, -1);
        });
        e.test("1: the lowest showing that stands in the way by this reason, NONE if it is not 3 or 4",
                this::theLowestInTheWay);
        e.test("2: the lowest reel of which this is so by the reason 4, with that showing, NONE if it is not 4",
                this::theLowestReel);
        e.test("Returns the number.", () -> why(Makers.rich(), 0, 1, 609, 0, 4, 2, 0));
        int[][] values = {{0, -1, 3, Edges.GREATEST}, {2, -1, 3, Edges.LEAST}, {0, -1, 2000, Edges.GREATEST},
            {20, -1, 21, Edges.LEAST}, {2, -1, 3, Edges.GREATEST}};
        Edges.Due due = v -> v[0] != 0 || v[1] != 2 ? Check.INDEX : v[2] != 0 || v[3] != 20 || v[4] != 2
                ? Check.ARGUMENT : 0;
        e.test("Throws `IndexOutOfBoundsException` if there is no such film or screen",
                () -> e.grid(Makers::rich, values, due, (x, v) -> x.whyNot(v[0], v[1], v[2], v[3], v[4])));
        e.test("Throws `IllegalArgumentException` if start or pause is out of range, or what is not 0 to 2", () -> {
            e.range(0, 2, Check.ARGUMENT, Makers::rich, (x, what) -> x.whyNot(0, 0, 0, 0, what));
            e.range(0, 2, Check.ARGUMENT, Makers::twelveShowings, (x, what) -> x.whyNot(0, 0, 0, 0, what));
            e.refused("refused, and a wrong what", Check.ARGUMENT, Makers::rich, x -> x.whyNot(0, 0, 1999, 0, 3));
        });
    }

    private void theLowestInTheWay() {
        ReelScreens x = Makers.bare();
        x.film(3, 20);
        x.show(0, 0, 140, 0);
        x.show(0, 0, 100, 0);
        x.show(0, 1, 120, 0);
        why(x, 1, 0, 91, 0, 3, 0, -1);
        why(x, 1, 0, 90, 0, 3, 0, -1);
        why(x, 1, 0, 80, 0, 3, 1, -1);
        why(x, 1, 0, 80, 1, 3, 0, -1);
        why(x, 1, 0, 40, 0, 0, -1, -1);
        why(x, 0, 2, 129, 0, 4, 2, 0);
        why(x, 0, 2, 130, 0, 0, -1, -1);
        why(x, 0, 2, 131, 0, 4, 0, 0);
        x.set(0, 11);
        why(x, 0, 2, 120, 0, 4, 0, 0);
        why(x, 0, 2, 0, 0, 0, -1, -1);
        ReelScreens full = Makers.twelveShowings();
        full.callOff(0);
        why(full, 0, 1, 1100, 0, 4, 10, 0);
        why(full, 0, 0, 1100, 0, 3, 10, -1);
    }

    private void theLowestReel() {
        ReelScreens x = Makers.empty();
        x.film(6, 10);
        x.set(0, 0);
        x.show(0, 1, 500, 20);
        // There the reels 0 to 2 begin at 500, 510 and 520, the reels 3 to 5 at 550, 560 and 570.
        why(x, 0, 0, 491, 0, 4, 0, 0);
        why(x, 0, 0, 490, 0, 0, -1, -1);
        why(x, 0, 0, 509, 0, 4, 0, 0);
        why(x, 0, 0, 510, 0, 0, -1, -1);
        why(x, 0, 0, 511, 0, 4, 0, 3);
        why(x, 0, 0, 529, 0, 4, 0, 3);
        why(x, 0, 0, 530, 0, 0, -1, -1);
        why(x, 0, 0, 491, 20, 4, 0, 0);
        ReelScreens y = Makers.empty();
        y.film(2, 10);
        y.show(0, 1, 500, 10);
        // With that showing, the lowest one: the showing 1 would hold the reel 0 too.
        y.show(0, 2, 470, 0);
        why(y, 0, 0, 505, 5, 4, 0, 0);
        why(y, 0, 0, 485, 20, 4, 0, 0);
        why(y, 0, 0, 480, 20, 4, 0, 1);
        y.callOff(0);
        why(y, 0, 0, 480, 20, 4, 0, 0);
    }

    private void nextStart() {
        e.test("Finds the next time at which a film can be shown.",
                () -> e.look(Makers::rich, x -> x.nextStart(0, 0, 90)));
        e.test("`film`: its number", () -> {
            e.range(0, 2, Check.INDEX, Makers::rich, (x, film) -> x.nextStart(film, 0, 0));
            e.range(0, 7, Check.INDEX, Makers::eightFilms, (x, film) -> x.nextStart(film, 0, 0));
            e.refused("the film 0 of none", Check.INDEX, Makers::empty, x -> x.nextStart(0, 0, 0));
        });
        e.test("`screen`: 0 to 2",
                () -> e.range(0, 2, Check.INDEX, Makers::rich, (x, screen) -> x.nextStart(0, screen, 0)));
        e.test("`from`: 0 to 1999",
                () -> e.range(0, 1999, Check.ARGUMENT, Makers::rich, (x, from) -> x.nextStart(0, 0, from)));
        e.test("Returns the first start from this minute on, with which a showing without a break would not be refused",
                this::theFirstStart);
        e.test("NONE if there is none.", this::noStart);
        int[][] values = {FILMS, SCREENS, MINUTES};
        Edges.Due due = v -> kindOfPlan(v[0], v[1], v[2]);
        e.test("Throws `IndexOutOfBoundsException` if there is no such film or screen",
                () -> e.grid(Makers::rich, values, due, (x, v) -> x.nextStart(v[0], v[1], v[2])));
        e.test("Throws `IllegalArgumentException` if from is out of range",
                () -> e.grid(Makers::richWithSixSaved, values, due, (x, v) -> x.nextStart(v[0], v[1], v[2])));
    }

    private void theFirstStart() {
        Edges.Maker[] makers = {Makers::rich, Makers::eightFilms, () -> Makers.shownAt(100, 115, 130, 200, 240),
            () -> withBreaks(0, 0), () -> withBreaks(10, 15), () -> withBreaks(60, 0), () -> withBreaks(0, 60)};
        for (Edges.Maker maker : makers) {
            ReelScreens x = maker.make();
            for (int film = 0; film < 3; film++) {
                for (int screen = 0; screen < 3; screen++) {
                    int next = -1;
                    for (int from = 1999; from >= 0; from--) {
                        next = x.whyNot(film, screen, from, 0, 0) == 0 ? from : next;
                        e.same("nextStart(" + film + ", " + screen + ", " + from + ")",
                                x.nextStart(film, screen, from), next);
                    }
                }
            }
        }
        ReelScreens y = Makers.bare();
        y.show(0, 0, 20, 0);
        e.same("the very minute", y.nextStart(0, 0, 10), 10);
        e.same("a minute later", y.nextStart(0, 0, 11), 30);
        e.same("the last one", y.nextStart(0, 0, 1990), 1990);
        y.set(1, 60);
        e.same("behind the turnaround", y.nextStart(0, 0, 0), 90);
        y.set(0, 60);
        e.same("behind the carrying", y.nextStart(0, 1, 0), 90);
    }

    /** Films of several reels, shown with breaks, so that the reels of one run between those of another. */
    private static ReelScreens withBreaks(int carrying, int turnaround) {
        ReelScreens x = Makers.empty();
        x.film(6, 10);
        x.film(3, 12);
        x.film(2, 25);
        x.show(0, 0, 200, 20);
        x.show(1, 1, 150, 7);
        x.show(2, 2, 300, 20);
        x.show(0, 1, 500, 1);
        x.show(1, 2, 640, 20);
        x.show(2, 0, 700, 3);
        x.set(0, carrying);
        x.set(1, turnaround);
        return x;
    }

    private void noStart() {
        ReelScreens x = Makers.bare();
        e.same("it would end behind 2000", x.nextStart(0, 0, 1991), -1);
        e.same("the last minute", x.nextStart(0, 0, 1999), -1);
        x.show(0, 1, 1990, 0);
        e.same("the screen is taken", x.nextStart(0, 1, 1981), -1);
        e.same("the reel is taken", x.nextStart(0, 0, 1981), -1);
        e.same("just ahead", x.nextStart(0, 0, 1980), 1980);
        ReelScreens y = Makers.twelveShowings();
        for (int from = 0; from < 2000; from += 111) {
            for (int screen = 0; screen < 3; screen++) {
                e.same("there are 12", y.nextStart(0, screen, from), -1);
            }
        }
        y.callOff(3);
        e.same("there are 11", y.nextStart(0, 0, 300), 300);
        ReelScreens full = Makers.empty();
        full.film(6, 25);
        full.set(1, 50);
        for (int i = 0; i < 10; i++) {
            full.show(0, 0, 200 * i, 0);
        }
        e.same("no room is left", full.nextStart(0, 0, 0), -1);
        full.callOff(9);
        e.same("room is left behind the last", full.nextStart(0, 0, 0), 1800);
        full.callOff(4);
        e.same("room is left between two", full.nextStart(0, 0, 0), 800);
        full.set(1, 51);
        e.same("a minute short between two", full.nextStart(0, 0, 0), 1801);
    }

    private void bestScreen() {
        e.test("Finds the best screen for a film.", () -> e.look(Makers::rich, x -> x.bestScreen(0, 90)));
        e.test("`film`: its number", () -> {
            e.range(0, 2, Check.INDEX, Makers::rich, (x, film) -> x.bestScreen(film, 0));
            e.range(0, 7, Check.INDEX, Makers::eightFilms, (x, film) -> x.bestScreen(film, 0));
            e.refused("the film 0 of none", Check.INDEX, Makers::empty, x -> x.bestScreen(0, 0));
        });
        e.test("`from`: 0 to 1999",
                () -> e.range(0, 1999, Check.ARGUMENT, Makers::rich, (x, from) -> x.bestScreen(0, from)));
        e.test("Returns the screen on which nextStart() from this minute on is the earliest", () -> {
            ReelScreens x = Makers.shownAt(500, 501, 502);
            x.film(1, 10);
            e.same("the screen 0", x.bestScreen(3, 500), 0);
            x.move(0, 503);
            e.same("the screen 1", x.bestScreen(3, 500), 1);
            x.move(1, 504);
            e.same("the screen 2", x.bestScreen(3, 500), 2);
            e.same("from later on", x.bestScreen(3, 527), 2);
            e.same("from 529 on all are equal", x.bestScreen(3, 529), 2);
            x.seats(0, 301);
            e.same("at 527 one is the earliest", x.bestScreen(3, 527), 2);
            e.same("at 528 two are", x.bestScreen(3, 528), 0);
        });
        e.test("of several the one with the most seats, of several of those the lowest", this::mostSeats);
        e.test("NONE if it is NONE for all.", () -> {
            ReelScreens x = Makers.bare();
            e.same("too late", x.bestScreen(0, 1991), -1);
            e.same("the last minute", x.bestScreen(0, 1999), -1);
            e.same("the last start", x.bestScreen(0, 1990), 2);
            x.show(0, 2, 1980, 0);
            e.same("all wait for it, until 1990", x.bestScreen(0, 1981), 2);
            x.set(0, 1);
            x.set(1, 1);
            e.same("all are taken", x.bestScreen(0, 1981), -1);
            x.set(1, 0);
            e.same("only one has time left", x.bestScreen(0, 1981), 2);
            e.same("there are 12", Makers.twelveShowings().bestScreen(0, 0), -1);
        });
        int[][] values = {FILMS, MINUTES};
        Edges.Due due = v -> kindOfPlan(v[0], 0, v[1]);
        e.test("Throws `IndexOutOfBoundsException` if there is no such film",
                () -> e.grid(Makers::rich, values, due, (x, v) -> x.bestScreen(v[0], v[1])));
        e.test("Throws `IllegalArgumentException` if from is out of range",
                () -> e.grid(Makers::richWithSixSaved, values, due, (x, v) -> x.bestScreen(v[0], v[1])));
    }

    private void mostSeats() {
        int[][] seats = {{50, 50, 50}, {50, 51, 50}, {50, 51, 51}, {400, 399, 400}, {399, 399, 400}, {400, 400, 399}};
        int[] due = {0, 1, 1, 0, 2, 0};
        for (int i = 0; i < seats.length; i++) {
            ReelScreens x = Makers.bare();
            for (int screen = 0; screen < 3; screen++) {
                x.seats(screen, seats[i][screen]);
            }
            e.same("best screen of row " + i, x.bestScreen(0, 0), due[i]);
        }
        ReelScreens x = Makers.bare();
        x.film(1, 10);
        x.show(1, 2, 0, 0);
        e.same("the earliest goes ahead of seats", x.bestScreen(0, 0), 1);
        e.same("of those that are equal", x.bestScreen(0, 10), 2);
    }

    private void ifShown() {
        e.test("Tells how many more guests would greet behind a showing without a break.",
                () -> e.look(Makers::rich, x -> x.ifShown(1, 0, 310)));
        e.test("`film`: its number", () -> {
            e.range(0, 2, Check.INDEX, Makers::rich, (x, film) -> x.ifShown(film, 0, 0));
            e.range(0, 7, Check.INDEX, Makers::eightFilms, (x, film) -> x.ifShown(film, 0, 0));
            e.refused("the film 0 of none", Check.INDEX, Makers::empty, x -> x.ifShown(0, 0, 0));
        });
        e.test("`screen`: 0 to 2",
                () -> e.range(0, 2, Check.INDEX, Makers::rich, (x, screen) -> x.ifShown(0, screen, 0)));
        e.test("`start`: 0 to 1999",
                () -> e.range(0, 1999, Check.ARGUMENT, Makers::rich, (x, start) -> x.ifShown(0, 0, start)));
        e.test("Returns how many guests who greet behind no showing now would greet", this::howManyMore);
        e.test("NONE if the showing would be refused.", () -> {
            e.same("by the reason 1", Makers.twelveShowings().ifShown(0, 1, 1500), -1);
            e.same("by the reason 2", Makers.rich().ifShown(1, 0, 1991), -1);
            e.same("beside the reason 2", Makers.rich().ifShown(1, 0, 1990), 0);
            e.same("by the reason 3", Makers.rich().ifShown(1, 0, 139), -1);
            e.same("beside the reason 3", Makers.rich().ifShown(1, 0, 140), 0);
            e.same("by the reason 4", Makers.rich().ifShown(1, 0, 319), -1);
            e.same("beside the reason 4", Makers.rich().ifShown(1, 0, 320), 1);
        });
        int[][] values = {FILMS, SCREENS, MINUTES};
        Edges.Due due = v -> kindOfPlan(v[0], v[1], v[2]);
        e.test("Throws `IndexOutOfBoundsException` if there is no such film or screen",
                () -> e.grid(Makers::rich, values, due, (x, v) -> x.ifShown(v[0], v[1], v[2])));
        e.test("Throws `IllegalArgumentException` if start is out of range",
                () -> e.grid(Makers::twelveShowings, new int[][] {{0, -1, 1}, {0, 3}, MINUTES},
                        v -> v[0] == 0 ? due.kind(v) : Check.INDEX, (x, v) -> x.ifShown(v[0], v[1], v[2])));
    }

    private void howManyMore() {
        ReelScreens x = Makers.sixGuests();
        x.film(1, 10);
        e.same("all 6", x.ifShown(0, 0, 490), 6);
        e.same("a minute too early for one", x.ifShown(0, 0, 489), 5);
        e.same("too late for the last", x.ifShown(0, 0, 1976), 5);
        e.same("just not too late for the last", x.ifShown(0, 0, 1975), 6);
        e.same("too late for all", x.ifShown(0, 0, 1981), 0);
        e.same("just not too late for one", x.ifShown(0, 0, 1980), 1);
        e.same("another film", x.ifShown(1, 0, 490), 0);
        x.show(0, 0, 190, 0);
        e.same("three greet already", x.ifShown(0, 0, 490), 3);
        x.show(0, 0, 700, 0);
        e.same("all greet already", x.ifShown(0, 0, 490), 0);
        e.same("nothing is changed", x.count(3) * 100 + x.count(1), 602);
        e.same("no guests", Makers.bare().ifShown(0, 0, 0), 0);
    }

    private void use() {
        e.test("Returns how much a screen is used.", () -> e.look(Makers::rich, x -> (long) x.use(0)));
        e.test("`screen`: 0 to 2", () -> e.range(0, 2, Check.INDEX, Makers::rich, (x, screen) -> (long) x.use(screen)));
        e.test("Returns the minutes in which reels run on it, as a double, divided by 2000.", () -> {
            e.holds("none", Double.doubleToLongBits(Makers.empty().use(0)) == 0L);
            e.holds("the break left out", Makers.rich().use(0) == 20 / 2000.0);
            e.holds("another screen", Makers.rich().use(1) == 10 / 2000.0);
            ReelScreens x = Makers.empty();
            x.film(6, 25);
            x.set(1, 0);
            for (int i = 1; i <= 12; i++) {
                x.show(0, 2, 150 * (i - 1), 0);
                e.holds(i + " showings", x.use(2) == (double) (150 * i) / 2000);
                e.holds(i + " showings elsewhere", x.use(1) == 0.0);
            }
        });
        e.test("Throws `IndexOutOfBoundsException` if there is no such screen", () -> {
            for (int screen : new int[] {-1, 3, Edges.LEAST, Edges.GREATEST}) {
                e.refused("screen " + screen, Check.INDEX, Makers::twelveShowings, x -> (long) x.use(screen));
            }
        });
    }

    private void digest() {
        String[] words = {"Computes a hash of the whole state.", "The hash starts at 3727.",
            "For each value v of the following list, in order, the hash becomes 31 * hash + v, in long arithmetic"
                + " with overflow.",
            "The values are: count(0) to count(11)",
            "for each film its numbers 0 to 5, nextStart on each screen from 0 on, and bestScreen from 0 on",
            "for each showing its numbers 0 to 5, and its reels 0 to 5",
            "for each screen its numbers 0 to 4, runs at the minutes 0, 100, 200 and so on to 1900, and the bits of"
                + " use (as Double.doubleToLongBits)",
            "for each guest the numbers 0 to 3", "for each juror the numbers 0 to 2", "stopped with 0 to 2",
            "the length of the buffer and each of its character codes.", "Returns the hash."};
        for (String sentence : words) {
            e.test(sentence, this::digests);
        }
    }

    private void digests() {
        e.same("an empty one, from written values", Makers.empty().digest(), hashOf(valuesOfAnEmptyOne()));
        e.same("empty", Makers.empty().digest(), hashOf(valuesOf(Makers.empty(), "")));
        e.same("rich", Makers.rich().digest(), hashOf(valuesOf(Makers.rich(), "0/1@900")));
        e.same("8 films", Makers.eightFilms().digest(), hashOf(valuesOf(Makers.eightFilms(), "")));
        e.same("12 showings", Makers.twelveShowings().digest(), hashOf(valuesOf(Makers.twelveShowings(), "")));
        e.same("6 guests", Makers.sixGuests().digest(), hashOf(valuesOf(Makers.sixGuests(), "")));
        StringBuilder codes = new StringBuilder();
        for (int code = 33; code < 93; code++) {
            codes.append((char) code);
        }
        e.same("60 codes", Makers.sixtyCodes().digest(), hashOf(valuesOf(Makers.sixtyCodes(), codes.toString())));
        e.look(Makers::rich, ReelScreens::digest);
        e.same("edges of hundreds", edgesOfHundreds().digest(), hashOf(valuesOf(edgesOfHundreds(), "")));
        ReelScreens x = Makers.empty();
        x.film(5, 25);
        for (int showings = 1; showings <= 10; showings++) {
            // 1, 2, 4 and 8 showings use a 16th, an 8th, a quarter and a half of the minutes.
            x.show(0, 1, 140 * (showings - 1), 0);
            e.same("use by " + 125 * showings + " minutes", x.digest(), hashOf(valuesOf(x, "")));
        }
    }

    /** Reels that run at one of the minutes 0, 100 and so on, but not a minute later; a best screen from 0 only. */
    private static ReelScreens edgesOfHundreds() {
        ReelScreens x = Makers.bare();
        x.film(1, 10);
        x.show(1, 0, 0, 0);
        x.show(1, 0, 91, 0);
        x.show(1, 0, 200, 0);
        x.show(1, 2, 25, 0);
        x.show(1, 2, 1891, 0);
        x.show(1, 2, 1990, 0);
        x.set(1, 15);
        return x;
    }

    private static List<Long> valuesOfAnEmptyOne() {
        List<Long> values = new ArrayList<>();
        for (int value : new int[] {0, 0, 0, 0, 0, 0, -1, 10, 15, 10, 5, 0}) {
            values.add((long) value);
        }
        for (int screen = 0; screen < 3; screen++) {
            for (int value : new int[] {100 * (screen + 1), 0, 0, 0, -1}) {
                values.add((long) value);
            }
            for (int minute = 0; minute < 20; minute++) {
                values.add(-1L);
            }
            values.add(0L);
        }
        for (int value : new int[] {0, 0, 0, 0, 0, 0, 0, 0, 0, -1, -1, -1, 0}) {
            values.add((long) value);
        }
        return values;
    }

    /** Reckoned without a bound, and cut to 64 bits only at the end. */
    private static long hashOf(List<Long> values) {
        BigInteger hash = BigInteger.valueOf(3727);
        for (long value : values) {
            hash = hash.multiply(BigInteger.valueOf(31)).add(BigInteger.valueOf(value));
        }
        return hash.longValue();
    }

    private static void add(List<Long> values, Edges.Try look, ReelScreens x, int least, int most) {
        for (int what = least; what <= most; what++) {
            values.add(look.answer(x, what));
        }
    }

    private static List<Long> valuesOf(ReelScreens x, String codes) {
        List<Long> values = new ArrayList<>();
        add(values, ReelScreens::count, x, 0, 11);
        for (int i = 0; i < x.count(0); i++) {
            int film = i;
            add(values, (y, what) -> y.filmOf(film, what), x, 0, 5);
            add(values, (y, screen) -> y.nextStart(film, screen, 0), x, 0, 2);
            values.add((long) x.bestScreen(film, 0));
        }
        for (int i = 0; i < x.count(1); i++) {
            int showing = i;
            add(values, (y, what) -> y.showing(showing, what), x, 0, 5);
            add(values, (y, reel) -> y.reel(showing, reel), x, 0, 5);
        }
        for (int i = 0; i < 3; i++) {
            int screen = i;
            add(values, (y, what) -> y.screen(screen, what), x, 0, 4);
            add(values, (y, hundred) -> y.runs(screen, 100 * hundred), x, 0, 19);
            values.add(Double.doubleToLongBits(x.use(screen)));
        }
        for (int i = 0; i < x.count(2); i++) {
            int guest = i;
            add(values, (y, what) -> y.guestOf(guest, what), x, 0, 3);
        }
        for (int i = 0; i < 3; i++) {
            int juror = i;
            add(values, (y, what) -> y.juror(juror, what), x, 0, 2);
        }
        add(values, ReelScreens::stopped, x, 0, 2);
        values.add((long) codes.length());
        for (char code : codes.toCharArray()) {
            values.add((long) code);
        }
        return values;
    }
}
