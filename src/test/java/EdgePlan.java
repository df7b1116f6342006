/** Promises 1 to 7, sentence by sentence: films, screens, settings and showings. */
final class EdgePlan {
    private static final int[] FILMS = {0, 2, -1, 3, Edges.LEAST, Edges.GREATEST};
    private static final int[] SCREENS = {0, 2, -1, 3, Edges.LEAST, Edges.GREATEST};
    private static final int[] STARTS = {1000, -1, 2000, Edges.LEAST, Edges.GREATEST};

    private final Edges e;

    EdgePlan(Edges edges) {
        e = edges;
    }

    void run() {
        e.heading("Promise 1: A new object");
        e.test("Creates a festival without films and a snapshot, with an empty buffer.", this::aNewObject);
        e.heading("Promise 2: film");
        film();
        e.heading("Promise 3: seats");
        seats();
        e.heading("Promise 4: set");
        set();
        e.heading("Promise 5: show");
        show();
        e.heading("Promise 6: callOff");
        callOff();
        e.heading("Promise 7: move");
        move();
    }

    private void aNewObject() {
        ReelScreens x = Makers.empty();
        e.row("count", ReelScreens::count, x, 0, 0, 0, 0, 0, 0, -1, 10, 15, 10, 5, 0);
        e.row("stopped", ReelScreens::stopped, x, -1, -1, -1);
        e.same("firstError", x.firstError(), 0);
        e.same("clearBuffer", x.clearBuffer(), 0);
        for (int screen = 0; screen < 3; screen++) {
            int number = screen;
            e.row("screen", (y, what) -> y.screen(number, what), x, 100 * (screen + 1), 0, 0, 0, -1);
            e.row("juror", (y, what) -> y.juror(number, what), x, 0, 0, 0);
            e.holds("use", x.use(screen) == 0.0);
            e.same("runs at 0", x.runs(screen, 0), -1);
            e.same("runs at 1999", x.runs(screen, 1999), -1);
        }
        e.refused("no snapshot", Check.STATE, Makers::empty, ReelScreens::restore);
        e.refused("no saved state", Check.STATE, Makers::empty, ReelScreens::undo);
        e.refused("no text", Check.ARGUMENT, Makers::empty, ReelScreens::program);
        Makers.richWithSixSaved();
        e.sameAll("an object beside it changed it", x, Makers.empty());
    }

    private void film() {
        e.test("Lets a film come", () -> {
            ReelScreens x = Makers.rich();
            x.film(5, 17);
            e.same("films", x.count(0), 4);
            e.row("film", (y, what) -> y.filmOf(3, what), x, 5, 17, 0, 0, 0, 0);
            e.row("the one before", (y, what) -> y.filmOf(2, what), x, 3, 20, 0, 0, 0, 0);
        });
        e.test("Undoable.", () -> e.undoable(Makers::rich, x -> x.film(1, 10)));
        e.test("`reels`: 1 to 6", () -> e.range(1, 6, Check.ARGUMENT, Makers::rich, (x, reels) -> x.film(reels, 10)));
        e.test("`minutes`: 10 to 25",
                () -> e.range(10, 25, Check.ARGUMENT, Makers::rich, (x, minutes) -> x.film(1, minutes)));
        e.test("Returns its number.", () -> {
            ReelScreens x = Makers.empty();
            for (int film = 0; film < 8; film++) {
                e.same("film", x.film(1, 10), film);
            }
            x.undo();
            e.same("the number of one that is taken back", x.film(1, 10), 7);
        });
        e.test("Throws `IllegalArgumentException` if reels or minutes is out of range", () -> {
            int[][] values = {{0, 1, 6, 7, -1, Edges.LEAST, Edges.GREATEST}, {9, 10, 25, 26, -1, Edges.LEAST, Edges.GREATEST}};
            Edges.Due due = v -> v[0] >= 1 && v[0] <= 6 && v[1] >= 10 && v[1] <= 25 ? 0 : Check.ARGUMENT;
            e.grid(Makers::rich, values, due, (x, v) -> x.film(v[0], v[1]));
            e.grid(Makers::eightFilms, values, v -> due.kind(v) == 0 ? Check.STATE : Check.ARGUMENT,
                    (x, v) -> x.film(v[0], v[1]));
        });
        e.test("Throws `IllegalStateException` if there are 8", () -> {
            e.refused("at 8", Check.STATE, Makers::eightFilms, x -> x.film(6, 25));
            Edges.Maker seven = () -> {
                ReelScreens x = Makers.eightFilms();
                x.undo();
                return x;
            };
            e.answers("at 7", seven, x -> x.film(6, 25));
        });
    }

    private void seats() {
        e.test("Changes the seats of a screen", () -> {
            ReelScreens x = Makers.rich();
            x.seats(2, 77);
            e.row("seats", (y, screen) -> y.screen(screen, 0), x, 100, 222, 77);
            e.same("seats of all showings", x.count(4), 100 + 222 + 77);
            e.same("seats of a film", x.filmOf(0, 3), 100 + 77);
        });
        e.test("Undoable.", () -> {
            e.undoable(Makers::rich, x -> x.seats(2, 50));
            e.undoable(Makers::rich, x -> x.seats(1, 222));
        });
        e.test("`screen`: 0 to 2", () -> e.range(0, 2, Check.INDEX, Makers::rich, (x, screen) -> x.seats(screen, 50)));
        e.test("`seats`: 50 to 400",
                () -> e.range(50, 400, Check.ARGUMENT, Makers::rich, (x, seats) -> x.seats(1, seats)));
        e.test("Returns the previous ones.", () -> {
            ReelScreens x = Makers.empty();
            for (int screen = 0; screen < 3; screen++) {
                e.same("at first", x.seats(screen, 50), 100 * (screen + 1));
                e.same("the least", x.seats(screen, 400), 50);
                e.same("the most", x.seats(screen, 400), 400);
                e.same("the same", x.seats(screen, 51), 400);
            }
        });
        int[][] values = {SCREENS, {50, 400, 49, 401, -1, Edges.LEAST, Edges.GREATEST}};
        Edges.Due due = v -> v[0] < 0 || v[0] > 2 ? Check.INDEX : v[1] < 50 || v[1] > 400 ? Check.ARGUMENT : 0;
        e.test("Throws `IndexOutOfBoundsException` if there is no such screen",
                () -> e.grid(Makers::rich, values, due, (x, v) -> x.seats(v[0], v[1])));
        e.test("Throws `IllegalArgumentException` if seats is out of range",
                () -> e.grid(Makers::richWithSixSaved, values, due, (x, v) -> x.seats(v[0], v[1])));
    }

    private void set() {
        e.test("Changes a setting", () -> {
            ReelScreens x = Makers.empty();
            for (int setting = 0; setting < 4; setting++) {
                x.set(setting, 31 + setting);
            }
            e.row("setting", (y, setting) -> y.count(7 + setting), x, 31, 32, 33, 34);
        });
        e.test("Undoable.", () -> {
            for (int setting = 0; setting < 4; setting++) {
                int number = setting;
                e.undoable(Makers::rich, x -> x.set(number, 60));
                e.undoable(Makers::rich, x -> x.set(number, x.count(7 + number)));
            }
        });
        e.test("`setting`: 0 to 3", () -> e.range(0, 3, Check.INDEX, Makers::rich, (x, setting) -> x.set(setting, 7)));
        e.test("`value`: 0 to 60", () -> {
            for (int setting = 0; setting < 4; setting++) {
                int number = setting;
                e.range(0, 60, Check.ARGUMENT, Makers::rich, (x, value) -> x.set(number, value));
            }
        });
        e.test("Returns the previous value.", () -> {
            ReelScreens x = Makers.empty();
            int[] first = {10, 15, 10, 5};
            for (int setting = 0; setting < 4; setting++) {
                e.same("at first", x.set(setting, 0), first[setting]);
                e.same("the least", x.set(setting, 60), 0);
                e.same("the most", x.set(setting, 60), 60);
                e.same("the same", x.set(setting, 1), 60);
            }
        });
        int[][] values = {{0, 3, -1, 4, Edges.LEAST, Edges.GREATEST}, {0, 60, -1, 61, Edges.LEAST, Edges.GREATEST}};
        Edges.Due due = v -> v[0] < 0 || v[0] > 3 ? Check.INDEX : v[1] < 0 || v[1] > 60 ? Check.ARGUMENT : 0;
        e.test("Throws `IndexOutOfBoundsException` if there is no such setting",
                () -> e.grid(Makers::rich, values, due, (x, v) -> x.set(v[0], v[1])));
        e.test("Throws `IllegalArgumentException` if value is out of range",
                () -> e.grid(Makers::richWithSixSaved, values, due, (x, v) -> x.set(v[0], v[1])));
    }

    private void show() {
        e.test("Makes a showing", () -> {
            ReelScreens x = Makers.rich();
            x.show(2, 1, 1000, 13);
            e.same("showings", x.count(1), 4);
            e.row("showing", (y, what) -> y.showing(3, what), x, 2, 1, 1000, 1073, 13, 0);
            e.row("the one before", (y, what) -> y.showing(2, what), x, 0, 2, 600, 620, 0, 0);
            e.same("seats of all showings", x.count(4), 100 + 222 + 300 + 222);
        });
        e.test("Undoable.", () -> e.undoable(Makers::rich, x -> x.show(2, 1, 1000, 13)));
        e.test("`film`: its number", () -> {
            e.range(0, 2, Check.INDEX, Makers::rich, (x, film) -> x.show(film, 1, 1000, 0));
            e.range(0, 7, Check.INDEX, Makers::eightFilms, (x, film) -> x.show(film, 1, 1000, 0));
            e.refused("the film 0 of none", Check.INDEX, Makers::empty, x -> x.show(0, 1, 1000, 0));
        });
        e.test("`screen`: 0 to 2",
                () -> e.range(0, 2, Check.INDEX, Makers::rich, (x, screen) -> x.show(2, screen, 1000, 0)));
        e.test("`start`: 0 to 1999", this::showAtEachStart);
        e.test("`pause`: the break, 0 to 20",
                () -> e.range(0, 20, Check.ARGUMENT, Makers::rich, (x, pause) -> x.show(2, 1, 1000, pause)));
        e.test("Returns the number of the showing.", () -> {
            ReelScreens x = Makers.bare();
            for (int showing = 0; showing < 12; showing++) {
                e.same("show", x.show(0, showing % 3, 100 * showing, 0), showing);
            }
            x.callOff(0);
            x.callOff(5);
            e.same("show", x.show(0, 0, 1500, 0), 10);
        });
        showThrows();
    }

    private void showAtEachStart() {
        for (int start = 0; start <= 1999; start++) {
            ReelScreens x = Makers.bare();
            int at = start;
            int due = start <= 1990 ? 0 : Check.STATE;
            e.same("show at " + start, Edges.kindOf(y -> y.show(0, 0, at, 0), x), due);
            e.same("showings", x.count(1), due == 0 ? 1 : 0);
        }
        for (int start : new int[] {-1, 2000, -2000, 65536, Edges.LEAST, Edges.LEAST + 1, Edges.GREATEST}) {
            e.refused("show at " + start, Check.ARGUMENT, Makers::bare, x -> x.show(0, 0, start, 0));
        }
    }

    private void showThrows() {
        int[][] values = {FILMS, SCREENS, STARTS, {0, 20, -1, 21, Edges.LEAST, Edges.GREATEST}};
        Edges.Due due = v -> v[0] < 0 || v[0] > 2 || v[1] < 0 || v[1] > 2 ? Check.INDEX
                : v[2] != 1000 || v[3] < 0 || v[3] > 20 ? Check.ARGUMENT : 0;
        e.test("Throws `IndexOutOfBoundsException` if there is no such film or screen",
                () -> e.grid(Makers::rich, values, due, (x, v) -> x.show(v[0], v[1], v[2], v[3])));
        e.test("Throws `IllegalArgumentException` if start or pause is out of range", () -> {
            // Here each showing would be refused too: the first exception goes ahead of that.
            Edges.Due late = v -> v[2] < 0 || v[2] > 1999 || v[3] < 0 || v[3] > 20 ? Check.ARGUMENT : Check.STATE;
            int[][] starts = {{0}, {0}, {1991, 1999, -1, 2000, Edges.GREATEST}, {0, 20, -1, 21, Edges.LEAST}};
            e.grid(Makers::bare, starts, late, (x, v) -> x.show(v[0], v[1], v[2], v[3]));
            e.grid(Makers::twelveShowings, starts, late, (x, v) -> x.show(v[0], v[1], v[2], v[3]));
            e.refused("at 12, no such film", Check.INDEX, Makers::twelveShowings, x -> x.show(1, 0, -1, 21));
            e.refused("at 12, no such screen", Check.INDEX, Makers::twelveShowings, x -> x.show(0, 3, 2000, 0));
        });
        e.test("Throws `IllegalStateException` if it is refused", () -> {
            e.refused("by the reason 1", Check.STATE, Makers::twelveShowings, x -> x.show(0, 2, 1500, 0));
            e.refused("by the reason 2", Check.STATE, Makers::rich, x -> x.show(1, 0, 1991, 0));
            e.refused("by the reason 2, of the break", Check.STATE, Makers::rich, x -> x.show(1, 0, 1990, 1));
            e.refused("by the reason 3", Check.STATE, Makers::rich, x -> x.show(1, 0, 139, 0));
            e.answers("beside the reason 3", Makers::rich, x -> x.show(1, 0, 140, 0));
            e.refused("by the reason 4", Check.STATE, Makers::rich, x -> x.show(0, 1, 119, 5));
            e.answers("beside the reason 4", Makers::rich, x -> x.show(0, 1, 125, 0));
        });
    }

    private void callOff() {
        e.test("Calls a showing off", () -> {
            ReelScreens x = Makers.rich();
            x.callOff(1);
            e.same("showings", x.count(1), 2);
            e.same("called off", x.count(5), 3);
            e.row("the one ahead", (y, what) -> y.showing(0, what), x, 0, 0, 100, 125, 5, 3);
            e.row("the one behind", (y, what) -> y.showing(1, what), x, 0, 2, 600, 620, 0, 0);
            e.refused("its old number", Check.INDEX, () -> {
                ReelScreens y = Makers.rich();
                y.callOff(1);
                return y;
            }, y -> y.callOff(2));
        });
        e.test("Undoable.", () -> {
            for (int showing = 0; showing < 3; showing++) {
                int number = showing;
                e.undoable(Makers::rich, x -> x.callOff(number));
            }
        });
        e.test("`showing`: its number", () -> {
            e.range(0, 2, Check.INDEX, Makers::rich, ReelScreens::callOff);
            e.range(0, 11, Check.INDEX, Makers::twelveShowings, ReelScreens::callOff);
        });
        e.test("Returns how many jurors went to it.", () -> {
            for (int goers = 0; goers <= 3; goers++) {
                ReelScreens x = Makers.shownAt(100, 300, 600);
                for (int juror = 0; juror < 3; juror++) {
                    x.attend(juror, juror < goers ? 1 : 2);
                }
                e.same("callOff", x.callOff(1), goers);
                e.same("callOff", x.callOff(0), 0);
                e.same("callOff of the last", x.callOff(0), 3 - goers);
            }
        });
        e.test("Throws `IndexOutOfBoundsException` if there is no such showing", () -> {
            e.refused("none at all", Check.INDEX, Makers::bare, x -> x.callOff(0));
            e.refused("behind the last", Check.INDEX, Makers::rich, x -> x.callOff(3));
            e.refused("behind the last of 12", Check.INDEX, Makers::twelveShowings, x -> x.callOff(12));
        });
    }

    private void move() {
        e.test("Moves a showing to another start, on its screen, with its break", () -> {
            ReelScreens x = Makers.rich();
            x.move(0, 1500);
            e.row("showing", (y, what) -> y.showing(0, what), x, 0, 0, 1500, 1525, 5, 3);
            e.row("reels", (y, reel) -> y.reel(0, reel), x, 1500, 1515, -1, -1, -1, -1);
        });
        e.test("it keeps its number", () -> {
            ReelScreens x = Makers.twelveShowings();
            for (int showing = 11; showing >= 0; showing--) {
                x.move(showing, 100 * showing + 50);
                e.same("start", x.showing(showing, 2), 100 * showing + 50);
            }
            e.row("start", (y, showing) -> y.showing(showing, 2), x,
                    50, 150, 250, 350, 450, 550, 650, 750, 850, 950, 1050, 1150);
        });
        e.test("Undoable.", () -> {
            e.undoable(Makers::rich, x -> x.move(0, 1500));
            e.undoable(Makers::rich, x -> x.move(0, 100));
            e.undoable(Makers::rich, x -> x.move(1, 105));
        });
        e.test("`showing`: its number", () -> {
            e.range(0, 2, Check.INDEX, Makers::rich, (x, showing) -> x.move(showing, 1500));
            e.range(0, 11, Check.INDEX, Makers::twelveShowings, (x, showing) -> x.move(showing, 1500));
        });
        e.test("`start`: 0 to 1999", this::moveToEachStart);
        e.test("Returns how many jurors go to it no more.", () -> {
            for (int lost = 0; lost <= 3; lost++) {
                ReelScreens x = Makers.shownAt(100, 300, 600);
                for (int juror = 0; juror < 3; juror++) {
                    x.attend(juror, 0);
                    x.attend(juror, juror < lost ? 1 : 2);
                }
                e.same("move", x.move(0, 300), lost);
                e.same("goers", x.showing(0, 5), 7 & 7 << lost);
                e.same("move", x.move(0, 600), 3 - lost);
                e.same("goers", x.showing(0, 5), 0);
                e.same("move of what nobody goes to", x.move(0, 605), 0);
            }
        });
        moveThrows();
    }

    private void moveToEachStart() {
        ReelScreens x = Makers.bare();
        x.show(0, 0, 0, 0);
        for (int start = 0; start <= 1999; start++) {
            int at = start;
            e.same("move to " + start, Edges.kindOf(y -> y.move(0, at), x), start <= 1990 ? 0 : Check.STATE);
            e.same("start", x.showing(0, 2), Math.min(start, 1990));
        }
        for (int start : new int[] {-1, 2000, -2000, 65536, Edges.LEAST, Edges.LEAST + 1, Edges.GREATEST}) {
            e.refused("move to " + start, Check.ARGUMENT, Makers::rich, y -> y.move(0, start));
        }
    }

    private void moveThrows() {
        int[][] values = {{0, 2, -1, 3, Edges.LEAST, Edges.GREATEST}, {1000, 1999, -1, 2000, Edges.LEAST, Edges.GREATEST}};
        Edges.Due due = v -> v[0] < 0 || v[0] > 2 ? Check.INDEX : v[1] < 0 || v[1] > 1999 ? Check.ARGUMENT
                : v[1] == 1999 ? Check.STATE : 0;
        e.test("Throws `IndexOutOfBoundsException` if there is no such showing", () -> {
            e.grid(Makers::rich, values, due, (x, v) -> x.move(v[0], v[1]));
            e.refused("none at all", Check.INDEX, Makers::bare, x -> x.move(0, 2000));
        });
        e.test("Throws `IllegalArgumentException` if start is out of range",
                () -> e.grid(Makers::richWithSixSaved, values, due, (x, v) -> x.move(v[0], v[1])));
        e.test("Throws `IllegalStateException` if it would be refused, if it was not there (for the reasons 2 to 4)",
                this::moveIsRefused);
    }

    private void moveIsRefused() {
        Edges.Maker maker = () -> {
            ReelScreens x = Makers.rich();
            x.show(2, 0, 300, 0);
            return x;
        };
        // The showing 0 has the reel 0, a break of 5, and the reel 1; 300 to 360 is taken on its screen.
        e.answers("ends at 2000", maker, x -> x.move(0, 1975));
        e.refused("by the reason 2", Check.STATE, maker, x -> x.move(0, 1976));
        e.answers("15 minutes ahead of the other", maker, x -> x.move(0, 260));
        e.refused("by the reason 3, ahead", Check.STATE, maker, x -> x.move(0, 261));
        e.answers("15 minutes behind the other", maker, x -> x.move(0, 375));
        e.refused("by the reason 3, behind", Check.STATE, maker, x -> x.move(0, 374));
        e.answers("10 minutes for the reels, ahead", maker, x -> x.move(0, 575));
        e.refused("by the reason 4, ahead", Check.STATE, maker, x -> x.move(0, 576));
        e.answers("10 minutes for the reels, behind", maker, x -> x.move(0, 620));
        e.refused("by the reason 4, behind", Check.STATE, maker, x -> x.move(0, 619));
        for (int start = 61; start <= 139; start++) {
            int at = start;
            e.answers("its own time does not stand in its way, " + start, maker, x -> x.move(0, at));
        }
        // The showing 3 has the film 2 on the screen 0, the showing 2 the film 0 on the screen 2.
        e.answers("15 minutes behind the first", maker, x -> x.move(3, 140));
        e.refused("by the reason 3, of a film and a screen that differ", Check.STATE, maker, x -> x.move(3, 139));
        e.answers("10 minutes for the reels", maker, x -> x.move(2, 125));
        e.refused("by the reason 4, of a film and a screen that differ", Check.STATE, maker, x -> x.move(2, 124));
        e.answers("there are 12", Makers::twelveShowings, x -> x.move(11, 1500));
        e.refused("there are 12, by the reason 3", Check.STATE, Makers::twelveShowings, x -> x.move(11, 1020));
    }
}
