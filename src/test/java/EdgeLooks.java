/** Promises 19 to 23 and 26, sentence by sentence: looks. */
final class EdgeLooks {
    private static final int[] THREE = {0, 2, -1, 3, Edges.LEAST, Edges.GREATEST};
    private static final int[] SIX = {0, 5, -1, 6, Edges.LEAST, Edges.GREATEST};

    private final Edges e;

    EdgeLooks(Edges edges) {
        e = edges;
    }

    void run() {
        e.heading("Promise 19: filmOf");
        filmOf();
        e.heading("Promise 20: showing");
        showing();
        e.heading("Promise 21: reel");
        reel();
        e.heading("Promise 22: runs");
        runs();
        e.heading("Promise 23: screen");
        screen();
        e.heading("Promise 26: count");
        count();
    }

    private static int outOf(int value, int most, int kind) {
        return value < 0 || value > most ? kind : 0;
    }

    /** Three rows (of films, showings or screens) and a second value from 0 to 5. */
    private static int kindOfRow(int row, int value) {
        int first = outOf(row, 2, Check.INDEX);
        return first != 0 ? first : outOf(value, 5, Check.ARGUMENT);
    }

    private void filmOf() {
        e.test("Returns something of a film.", () -> e.look(Makers::rich, x -> x.filmOf(0, 5)));
        e.test("`film`: its number", () -> {
            e.range(0, 2, Check.INDEX, Makers::rich, (x, film) -> x.filmOf(film, 5));
            e.range(0, 7, Check.INDEX, Makers::eightFilms, (x, film) -> x.filmOf(film, 5));
            e.refused("the film 0 of none", Check.INDEX, Makers::empty, x -> x.filmOf(0, 0));
        });
        e.test("0: its reels", () -> e.row("reels", (x, film) -> x.filmOf(film, 0), Makers.eightFilms(),
                1, 2, 3, 4, 5, 6, 1, 2));
        e.test("1: the minutes of a reel", () -> {
            ReelScreens x = Makers.empty();
            x.film(6, 10);
            x.film(1, 25);
            e.row("minutes", (y, film) -> y.filmOf(film, 1), x, 10, 25);
        });
        e.test("2: its showings", () -> {
            e.row("showings", (x, film) -> x.filmOf(film, 2), Makers.rich(), 2, 1, 0);
            e.same("all 12", Makers.twelveShowings().filmOf(0, 2), 12);
        });
        e.test("3: the seats of all its showings, together", () -> {
            e.row("seats", (x, film) -> x.filmOf(film, 3), Makers.rich(), 400, 222, 0);
            ReelScreens x = Makers.twelveShowings();
            x.seats(0, 400);
            e.same("the most", x.filmOf(0, 3), 4800);
        });
        e.test("4: a mask of the jurors who have seen it, with the bit j for the juror j", () -> {
            e.row("jurors", (x, film) -> x.filmOf(film, 4), Makers.rich(), 3, 2, 0);
            for (int mask = 0; mask < 8; mask++) {
                ReelScreens x = Makers.shownAt(100);
                for (int juror = 0; juror < 3; juror++) {
                    if ((mask >> juror & 1) == 1) {
                        x.attend(juror, 0);
                    }
                }
                e.same("jurors", x.filmOf(0, 4), mask);
            }
        });
        e.test("5: its points, of jurors who have seen it", this::pointsOfAFilm);
        e.test("Returns the number.", () -> {
            e.row("film 0", (x, what) -> x.filmOf(0, what), Makers.rich(), 2, 10, 2, 400, 3, 11);
            e.row("film 2", (x, what) -> x.filmOf(2, what), Makers.rich(), 3, 20, 0, 0, 0, 0);
        });
        e.test("Throws `IndexOutOfBoundsException` if there is no such film",
                () -> e.grid(Makers::rich, new int[][] {THREE, SIX}, v -> kindOfRow(v[0], v[1]),
                        (x, v) -> x.filmOf(v[0], v[1])));
        e.test("Throws `IllegalArgumentException` if what is not 0 to 5",
                () -> e.range(0, 5, Check.ARGUMENT, Makers::rich, (x, what) -> x.filmOf(2, what)));
    }

    private void pointsOfAFilm() {
        e.row("points", (x, film) -> x.filmOf(film, 5), Makers.rich(), 11, 0, 0);
        ReelScreens x = Makers.shownAt(100);
        x.show(0, 1, 500, 0);
        for (int juror = 0; juror < 3; juror++) {
            x.attend(juror, juror == 0 ? 1 : 0);
            x.vote(juror, 0, 10);
        }
        e.same("the most", x.filmOf(0, 5), 30);
        x.attend(0, 0);
        e.same("seen twice", x.filmOf(0, 5), 30);
        x.callOff(0);
        e.same("of the juror who has still seen it", x.filmOf(0, 5), 10);
        x.callOff(0);
        e.same("of none", x.filmOf(0, 5), 0);
    }

    private void showing() {
        e.test("Returns something of a showing.", () -> e.look(Makers::rich, x -> x.showing(0, 5)));
        e.test("`showing`: its number", () -> {
            e.range(0, 2, Check.INDEX, Makers::rich, (x, showing) -> x.showing(showing, 3));
            e.range(0, 11, Check.INDEX, Makers::twelveShowings, (x, showing) -> x.showing(showing, 3));
            e.refused("the showing 0 of none", Check.INDEX, Makers::bare, x -> x.showing(0, 0));
        });
        e.test("0: its film", () -> e.row("film", (x, showing) -> x.showing(showing, 0),
                Makers.shownAt(0, 100, 200, 300, 400, 500, 600, 700), 0, 1, 2, 3, 4, 5, 6, 7));
        e.test("1: its screen", () -> e.row("screen", (x, showing) -> x.showing(showing, 1),
                Makers.shownAt(0, 100, 200, 300), 0, 1, 2, 0));
        e.test("2: its start", () -> e.row("start", (x, showing) -> x.showing(showing, 2),
                Makers.shownAt(0, 1990), 0, 1990));
        e.test("3: its end", () -> e.row("end", (x, showing) -> x.showing(showing, 3),
                Makers.shownAt(0, 1990), 10, 2000));
        e.test("4: its break", () -> {
            ReelScreens x = Makers.bare();
            x.show(0, 0, 0, 0);
            x.show(0, 0, 100, 20);
            e.row("break", (y, showing) -> y.showing(showing, 4), x, 0, 20);
        });
        e.test("5: a mask of the jurors who go to it", () -> {
            ReelScreens x = Makers.shownAt(100, 300);
            int[] masks = {4, 5, 7};
            int[] jurors = {2, 0, 1};
            e.same("nobody", x.showing(1, 5), 0);
            for (int i = 0; i < 3; i++) {
                x.attend(jurors[i], 1);
                e.same("jurors", x.showing(1, 5), masks[i]);
            }
            e.same("of another", x.showing(0, 5), 0);
        });
        e.test("Returns the number.", () -> e.row("showing 1", (x, what) -> x.showing(1, what), Makers.rich(),
                1, 1, 300, 310, 0, 2));
        e.test("Throws `IndexOutOfBoundsException` if there is no such showing",
                () -> e.grid(Makers::rich, new int[][] {THREE, SIX}, v -> kindOfRow(v[0], v[1]),
                        (x, v) -> x.showing(v[0], v[1])));
        e.test("Throws `IllegalArgumentException` if what is not 0 to 5",
                () -> e.range(0, 5, Check.ARGUMENT, Makers::rich, (x, what) -> x.showing(2, what)));
    }

    private void reel() {
        e.test("Returns when a reel begins.", () -> e.look(Makers::rich, x -> x.reel(0, 1)));
        e.test("`showing`: its number", () -> {
            e.range(0, 2, Check.INDEX, Makers::rich, (x, showing) -> x.reel(showing, 0));
            e.range(0, 11, Check.INDEX, Makers::twelveShowings, (x, showing) -> x.reel(showing, 5));
            e.refused("the showing 0 of none", Check.INDEX, Makers::bare, x -> x.reel(0, 0));
        });
        e.test("`reel`: 0 to 5", () -> {
            e.range(0, 5, Check.ARGUMENT, Makers::rich, (x, reel) -> x.reel(1, reel));
            e.range(0, 5, Check.ARGUMENT, Makers::rich, (x, reel) -> x.reel(0, reel));
        });
        e.test("Returns the minute at which this reel begins in the showing", () -> {
            ReelScreens x = Makers.empty();
            x.film(6, 25);
            x.show(0, 0, 0, 20);
            x.show(0, 0, 1850, 0);
            e.row("the earliest, with a break", (y, reel) -> y.reel(0, reel), x, 0, 25, 50, 95, 120, 145);
            e.row("the latest", (y, reel) -> y.reel(1, reel), x, 1850, 1875, 1900, 1925, 1950, 1975);
        });
        e.test("NONE if the film has not so many", () -> {
            for (int reels = 1; reels <= 6; reels++) {
                ReelScreens x = Makers.empty();
                x.film(reels, 10);
                x.show(0, 0, 100, 0);
                for (int reel = 0; reel <= 5; reel++) {
                    e.same(reels + " reels, " + reel, x.reel(0, reel), reel < reels ? 100 + 10 * reel : -1);
                }
            }
        });
        e.test("Throws `IndexOutOfBoundsException` if there is no such showing",
                () -> e.grid(Makers::rich, new int[][] {THREE, SIX}, v -> kindOfRow(v[0], v[1]),
                        (x, v) -> x.reel(v[0], v[1])));
        e.test("Throws `IllegalArgumentException` if reel is not 0 to 5",
                () -> e.range(0, 5, Check.ARGUMENT, Makers::richWithSixSaved, (x, reel) -> x.reel(2, reel)));
    }

    private void runs() {
        e.test("Tells what runs on a screen.", () -> e.look(Makers::rich, x -> x.runs(0, 100)));
        e.test("`screen`: 0 to 2", () -> {
            e.range(0, 2, Check.INDEX, Makers::rich, (x, screen) -> x.runs(screen, 100));
            e.row("at 305", (x, screen) -> x.runs(screen, 305), Makers.rich(), -1, 6, -1);
        });
        e.test("`minute`: 0 to 1999", () -> {
            e.range(0, 1999, Check.ARGUMENT, Makers::rich, (x, minute) -> x.runs(0, minute));
            ReelScreens x = Makers.shownAt(0, 1990);
            e.same("the minute 0", x.runs(0, 0), 0);
            e.same("the minute 1999", x.runs(1, 1999), 6);
        });
        e.test("Returns 6 times the film and the reel, together, that runs in this minute", () -> {
            ReelScreens x = Makers.empty();
            for (int film = 0; film < 8; film++) {
                x.film(6, 10);
                x.show(film, film % 3, 200 * film, 0);
                for (int reel = 0; reel < 6; reel++) {
                    int begin = 200 * film + 10 * reel;
                    e.same("its first minute", x.runs(film % 3, begin), 6 * film + reel);
                    e.same("its last minute", x.runs(film % 3, begin + 9), 6 * film + reel);
                }
            }
            e.same("the greatest", x.runs(1, 1459), 47);
            e.same("the least", x.runs(0, 0), 0);
        });
        e.test("NONE if none does (also in a break).", () -> {
            int[] minutes = {99, 100, 109, 110, 114, 115, 124, 125};
            int[] due = {-1, 0, 0, -1, -1, 1, 1, -1};
            ReelScreens x = Makers.rich();
            for (int i = 0; i < minutes.length; i++) {
                e.same("runs at " + minutes[i], x.runs(0, minutes[i]), due[i]);
                e.same("runs elsewhere at " + minutes[i], x.runs(1, minutes[i]), -1);
                e.same("no film at all", Makers.empty().runs(0, minutes[i]), -1);
            }
        });
        int[][] values = {THREE, {0, 1999, -1, 2000, Edges.LEAST, Edges.GREATEST}};
        Edges.Due due = v -> outOf(v[0], 2, Check.INDEX) != 0 ? Check.INDEX : outOf(v[1], 1999, Check.ARGUMENT);
        e.test("Throws `IndexOutOfBoundsException` if there is no such screen",
                () -> e.grid(Makers::rich, values, due, (x, v) -> x.runs(v[0], v[1])));
        e.test("Throws `IllegalArgumentException` if minute is out of range",
                () -> e.grid(Makers::empty, values, due, (x, v) -> x.runs(v[0], v[1])));
    }

    private void screen() {
        e.test("Returns something of a screen.", () -> e.look(Makers::rich, x -> x.screen(0, 3)));
        e.test("`screen`: 0 to 2", () -> e.range(0, 2, Check.INDEX, Makers::rich, (x, screen) -> x.screen(screen, 4)));
        e.test("0: its seats", () -> {
            ReelScreens x = Makers.empty();
            x.seats(0, 50);
            x.seats(2, 400);
            e.row("seats", (y, screen) -> y.screen(screen, 0), x, 50, 200, 400);
        });
        e.test("1: its showings", () -> {
            e.row("showings", (x, screen) -> x.screen(screen, 1), Makers.shownAt(0, 100, 200, 300, 400), 2, 2, 1);
            e.row("showings", (x, screen) -> x.screen(screen, 1), Makers.twelveShowings(), 12, 0, 0);
        });
        e.test("2: the minutes in which reels run on it, reckoned by its showings", () -> minutesOfReels(2));
        e.test("3: the same counted minute by minute", () -> minutesOfReels(3));
        e.test("4: the end of its last showing, NONE without one", () -> {
            e.row("end", (x, screen) -> x.screen(screen, 4), Makers.rich(), 125, 310, 620);
            e.row("end", (x, screen) -> x.screen(screen, 4), Makers.empty(), -1, -1, -1);
            e.row("end", (x, screen) -> x.screen(screen, 4), Makers.twelveShowings(), 1110, -1, -1);
            ReelScreens x = Makers.bare();
            x.show(0, 0, 1990, 0);
            x.show(0, 0, 0, 20);
            e.same("made first, ends last", x.screen(0, 4), 2000);
            x.move(0, 30);
            e.same("moved", x.screen(0, 4), 40);
            x.callOff(0);
            e.same("called off, the break belongs to it", x.screen(0, 4), 30);
            x.callOff(0);
            e.same("none is left", x.screen(0, 4), -1);
        });
        e.test("Returns the number.", () -> {
            e.row("screen 0", (x, what) -> x.screen(0, what), Makers.rich(), 100, 1, 20, 20, 125);
            e.row("screen 1", (x, what) -> x.screen(1, what), Makers.rich(), 222, 1, 10, 10, 310);
        });
        int[][] values = {THREE, {0, 4, -1, 5, Edges.LEAST, Edges.GREATEST}};
        Edges.Due due = v -> outOf(v[0], 2, Check.INDEX) != 0 ? Check.INDEX : outOf(v[1], 4, Check.ARGUMENT);
        e.test("Throws `IndexOutOfBoundsException` if there is no such screen",
                () -> e.grid(Makers::rich, values, due, (x, v) -> x.screen(v[0], v[1])));
        e.test("Throws `IllegalArgumentException` if what is not 0 to 4",
                () -> e.range(0, 4, Check.ARGUMENT, Makers::empty, (x, what) -> x.screen(2, what)));
    }

    private void minutesOfReels(int what) {
        e.row("minutes", (x, screen) -> x.screen(screen, what), Makers.empty(), 0, 0, 0);
        e.row("minutes, the break left out", (x, screen) -> x.screen(screen, what), Makers.rich(), 20, 10, 20);
        ReelScreens x = Makers.empty();
        x.film(6, 25);
        x.set(1, 0);
        for (int i = 0; i < 12; i++) {
            x.show(0, 2, 150 * i + (i == 11 ? 200 : 0), 0);
            e.same("minutes", x.screen(2, what), 150 * (i + 1));
        }
        e.same("the last showing ends at 2000", x.screen(2, 4), 2000);
        ReelScreens y = Makers.bare();
        y.show(0, 1, 0, 20);
        y.show(0, 1, 1970, 20);
        e.same("without the breaks", y.screen(1, what), 20);
        y.show(0, 0, 1990, 0);
        e.same("up to the last minute", y.screen(0, what), 10);
    }

    private void count() {
        e.test("Returns a number.", () -> e.look(Makers::rich, x -> x.count(6)));
        e.test("`what`: 0: films", () -> {
            e.same("none", Makers.empty().count(0), 0);
            e.same("8", Makers.eightFilms().count(0), 8);
        });
        e.test("1: showings", () -> {
            e.same("none", Makers.eightFilms().count(1), 0);
            e.same("12", Makers.twelveShowings().count(1), 12);
        });
        e.test("2: guests", () -> {
            e.same("none", Makers.twelveShowings().count(2), 0);
            e.same("6", Makers.sixGuests().count(2), 6);
        });
        e.test("3: guests who greet", () -> {
            ReelScreens x = Makers.sixGuests();
            e.same("none", x.count(3), 0);
            x.show(0, 0, 190, 0);
            e.same("who come at 0, 100 and 200", x.count(3), 3);
            x.show(0, 0, 490, 0);
            e.same("all", x.count(3), 6);
            x.callOff(1);
            x.callOff(0);
            e.same("none", x.count(3), 0);
        });
        e.test("4: seats of all showings, together", () -> {
            ReelScreens x = Makers.twelveShowings();
            e.same("12 showings", x.count(4), 1200);
            x.seats(0, 400);
            e.same("the most", x.count(4), 4800);
            e.same("none", Makers.eightFilms().count(4), 0);
            e.same("of each screen", Makers.rich().count(4), 100 + 222 + 300);
        });
        e.test("5: showings called off so far", () -> {
            ReelScreens x = Makers.bare();
            for (int times = 1; times <= 40; times++) {
                x.show(0, 0, 0, 0);
                x.callOff(0);
                e.same("more than there can be at once", x.count(5), times);
            }
            x.undo();
            e.same("taken back", x.count(5), 39);
            x.move(0, 100);
            e.same("a move does not count", x.count(5), 39);
        });
        e.test("6: the film that has the prize, NONE if none has", () -> {
            e.same("none", Makers.empty().count(6), -1);
            e.same("the film 0", Makers.rich().count(6), 0);
            ReelScreens x = Makers.shownAt(0, 100, 200, 300, 400, 500, 600, 700);
            x.attend(0, 7);
            e.same("1 juror", x.count(6), -1);
            x.attend(2, 7);
            e.same("the film 7", x.count(6), 7);
        });
        e.test("7 to 10: the settings 0 to 3", () -> {
            ReelScreens x = Makers.empty();
            int[] values = {60, 0, 59, 1};
            for (int setting = 0; setting < 4; setting++) {
                x.set(setting, values[setting]);
            }
            e.row("setting", (y, setting) -> y.count(7 + setting), x, values);
        });
        e.test("11: saved states", () -> {
            ReelScreens x = Makers.empty();
            e.same("none", x.count(11), 0);
            for (int call = 1; call <= 8; call++) {
                x.seats(0, 50);
                e.same("saved states", x.count(11), Math.min(call, 6));
            }
        });
        e.test("Returns the number.", () -> e.row("count", ReelScreens::count, Makers.rich(),
                3, 3, 2, 1, 622, 2, 0, 10, 15, 10, 5, 2));
        e.test("Throws `IllegalArgumentException` if what is not 0 to 11", () -> {
            e.range(0, 11, Check.ARGUMENT, Makers::rich, ReelScreens::count);
            e.range(0, 11, Check.ARGUMENT, Makers::empty, ReelScreens::count);
        });
    }
}
