/** Promises 8 to 10, 24 and 25, sentence by sentence: guests and jurors. */
final class EdgePeople {
    private static final int[] JURORS = {0, 2, -1, 3, Edges.LEAST, Edges.GREATEST};

    private final Edges e;

    EdgePeople(Edges edges) {
        e = edges;
    }

    void run() {
        e.heading("Promise 8: guest");
        guest();
        e.heading("Promise 9: attend");
        attend();
        e.heading("Promise 10: vote");
        vote();
        e.heading("Promise 24: guestOf");
        guestOf();
        e.heading("Promise 25: juror");
        juror();
    }

    private void guest() {
        e.test("Lets a guest come", () -> {
            ReelScreens x = Makers.rich();
            x.guest(2, 17, 1234);
            e.same("guests", x.count(2), 3);
            e.row("guest", (y, what) -> y.guestOf(2, what), x, 2, 17, 1234, -1);
            e.row("the one before", (y, what) -> y.guestOf(1, what), x, 1, 311, 400, -1);
        });
        e.test("Undoable.", () -> e.undoable(Makers::rich, x -> x.guest(2, 17, 1234)));
        e.test("`film`: its number", () -> {
            e.range(0, 2, Check.INDEX, Makers::rich, (x, film) -> x.guest(film, 0, 1));
            e.range(0, 7, Check.INDEX, Makers::eightFilms, (x, film) -> x.guest(film, 0, 1));
            e.refused("the film 0 of none", Check.INDEX, Makers::empty, x -> x.guest(0, 0, 1));
        });
        e.test("`come`: 0 to 1999", () -> e.range(0, 1999, Check.ARGUMENT, Makers::rich, (x, come) -> x.guest(0, come, 2000)));
        e.test("`leave`: greater than come, at most 2000", () -> {
            e.range(1, 2000, Check.ARGUMENT, Makers::rich, (x, leave) -> x.guest(0, 0, leave));
            e.range(1000, 2000, Check.ARGUMENT, Makers::rich, (x, leave) -> x.guest(0, 999, leave));
            e.range(2000, 2000, Check.ARGUMENT, Makers::rich, (x, leave) -> x.guest(0, 1999, leave));
        });
        e.test("Returns the guest's number.", () -> {
            ReelScreens x = Makers.bare();
            for (int guest = 0; guest < 6; guest++) {
                e.same("guest", x.guest(0, 0, 1), guest);
            }
            x.undo();
            e.same("the number of one that is taken back", x.guest(0, 0, 1), 5);
        });
        guestThrows();
    }

    private void guestThrows() {
        int[][] values = {{0, 2, -1, 3, Edges.LEAST, Edges.GREATEST},
            {0, 1000, 1999, -1, 2000, Edges.LEAST, Edges.GREATEST},
            {1, 1000, 1001, 2000, 0, -1, 2001, Edges.LEAST, Edges.GREATEST}};
        Edges.Due free = v -> v[0] < 0 || v[0] > 2 ? Check.INDEX
                : v[1] < 0 || v[1] > 1999 || v[2] <= v[1] || v[2] > 2000 ? Check.ARGUMENT : 0;
        Edges.Due full = v -> v[0] != 0 ? Check.INDEX : free.kind(v) == 0 ? Check.STATE : Check.ARGUMENT;
        e.test("Throws `IndexOutOfBoundsException` if there is no such film",
                () -> e.grid(Makers::rich, values, free, (x, v) -> x.guest(v[0], v[1], v[2])));
        e.test("Throws `IllegalArgumentException` if come or leave is out of range",
                () -> e.grid(Makers::sixGuests, values, full, (x, v) -> x.guest(v[0], v[1], v[2])));
        e.test("Throws `IllegalStateException` if there are 6", () -> {
            e.refused("at 6", Check.STATE, Makers::sixGuests, x -> x.guest(0, 0, 2000));
            e.answers("at 5", () -> {
                ReelScreens x = Makers.sixGuests();
                x.undo();
                return x;
            }, x -> x.guest(0, 0, 2000));
        });
    }

    private void attend() {
        e.test("Lets a juror go to a showing", () -> {
            ReelScreens x = Makers.rich();
            x.attend(2, 1);
            e.same("goers", x.showing(1, 5), 6);
            e.same("goers of another", x.showing(0, 5), 3);
            e.row("juror", (y, what) -> y.juror(2, what), x, 1, 2, 0);
        });
        e.test("Undoable.", () -> e.undoable(Makers::rich, x -> x.attend(2, 1)));
        e.test("`juror`: 0 to 2", () -> e.range(0, 2, Check.INDEX, Makers::rich, (x, juror) -> x.attend(juror, 2)));
        e.test("`showing`: its number", () -> {
            e.range(0, 2, Check.INDEX, Makers::rich, (x, showing) -> x.attend(2, showing));
            e.range(0, 11, Check.INDEX, Makers::twelveShowings, (x, showing) -> x.attend(2, showing));
        });
        e.test("Returns to how many showings the juror goes then.", () -> {
            ReelScreens x = Makers.twelveShowings();
            for (int showing = 0; showing < 12; showing++) {
                e.same("attend", x.attend(1, 11 - showing), showing + 1);
            }
            e.same("another juror", x.attend(0, 5), 1);
        });
        int[][] values = {JURORS, {2, -1, 3, Edges.LEAST, Edges.GREATEST}};
        Edges.Due due = v -> v[0] < 0 || v[0] > 2 || v[1] != 2 ? Check.INDEX : 0;
        e.test("Throws `IndexOutOfBoundsException` if there is no such juror or showing", () -> {
            e.grid(Makers::rich, values, due, (x, v) -> x.attend(v[0], v[1]));
            e.refused("none at all", Check.INDEX, Makers::bare, x -> x.attend(0, 0));
        });
        e.test("Throws `IllegalStateException` if the juror goes to it already, or cannot", () -> {
            e.refused("already", Check.STATE, Makers::rich, x -> x.attend(0, 0));
            Edges.Maker near = () -> {
                ReelScreens x = Makers.shownAt(100, 115, 114);
                x.attend(2, 0);
                return x;
            };
            e.answers("5 minutes behind", near, x -> x.attend(2, 1));
            e.refused("4 minutes behind", Check.STATE, near, x -> x.attend(2, 2));
            e.answers("another juror", near, x -> x.attend(1, 2));
            e.refused("no such juror, also already", Check.INDEX, near, x -> x.attend(3, 0));
        });
    }

    private void vote() {
        e.test("Lets a juror give points", () -> {
            ReelScreens x = Makers.rich();
            x.vote(1, 1, 9);
            e.row("juror", (y, what) -> y.juror(1, what), x, 2, 3, 13);
            e.same("points", x.filmOf(1, 5), 9);
            e.same("points of another", x.filmOf(0, 5), 11);
        });
        e.test("Undoable.", () -> {
            e.undoable(Makers::rich, x -> x.vote(0, 0, 10));
            e.undoable(Makers::rich, x -> x.vote(0, 0, 7));
        });
        e.test("`juror`: 0 to 2", () -> e.range(0, 2, Check.INDEX, () -> {
            ReelScreens x = Makers.shownAt(100);
            for (int juror = 0; juror < 3; juror++) {
                x.attend(juror, 0);
            }
            return x;
        }, (x, juror) -> x.vote(juror, 0, 5)));
        e.test("`film`: its number", () -> e.range(0, 1, Check.INDEX, () -> {
            ReelScreens x = Makers.shownAt(100, 300);
            x.attend(2, 0);
            x.attend(2, 1);
            return x;
        }, (x, film) -> x.vote(2, film, 5)));
        e.test("`points`: 0 to 10", () -> e.range(0, 10, Check.ARGUMENT, Makers::rich, (x, points) -> x.vote(1, 1, points)));
        e.test("Returns the previous points.", () -> {
            ReelScreens x = Makers.rich();
            e.same("at first", x.vote(1, 1, 10), 0);
            e.same("the most", x.vote(1, 1, 0), 10);
            e.same("the least", x.vote(1, 1, 3), 0);
            e.same("the same", x.vote(1, 1, 3), 3);
            e.same("of another film", x.vote(1, 0, 1), 4);
            e.same("of another juror", x.vote(0, 0, 1), 7);
        });
        voteThrows();
    }

    private void voteThrows() {
        int[][] values = {JURORS, {0, 2, -1, 3, Edges.LEAST, Edges.GREATEST},
            {0, 10, -1, 11, Edges.LEAST, Edges.GREATEST}};
        // Of the jurors 0 and 2 and the films 0 and 2, only the juror 0 has seen only the film 0.
        Edges.Due due = v -> v[0] < 0 || v[0] > 2 || v[1] < 0 || v[1] > 2 ? Check.INDEX
                : v[2] < 0 || v[2] > 10 ? Check.ARGUMENT : v[0] == 0 && v[1] == 0 ? 0 : Check.STATE;
        e.test("Throws `IndexOutOfBoundsException` if there is no such juror or film", () -> {
            e.grid(Makers::rich, values, due, (x, v) -> x.vote(v[0], v[1], v[2]));
            e.refused("no film at all", Check.INDEX, Makers::empty, x -> x.vote(0, 0, 11));
        });
        e.test("Throws `IllegalArgumentException` if points is out of range",
                () -> e.grid(Makers::richWithSixSaved, values, due, (x, v) -> x.vote(v[0], v[1], v[2])));
        e.test("Throws `IllegalStateException` if the juror has not seen the film", () -> {
            ReelScreens x = Makers.rich();
            e.same("not seen", Edges.kindOf(y -> y.vote(2, 0, 9), x), Check.STATE);
            x.attend(2, 0);
            e.same("the refused points did not stay", x.filmOf(0, 5), 11);
            e.same("seen", x.vote(2, 0, 8), 0);
            x.callOff(0);
            e.same("not seen any more", Edges.kindOf(y -> y.vote(2, 0, 3), x), Check.STATE);
            x.attend(2, 1);
            e.same("seen by the other showing", x.vote(2, 0, 1), 8);
        });
    }

    private void guestOf() {
        e.test("Returns something of a guest", () -> e.look(Makers::rich, x -> x.guestOf(1, 3)));
        e.test("`guest`: the number", () -> {
            e.range(0, 1, Check.INDEX, Makers::rich, (x, guest) -> x.guestOf(guest, 0));
            e.range(0, 5, Check.INDEX, Makers::sixGuests, (x, guest) -> x.guestOf(guest, 3));
        });
        e.test("0: the film", () -> e.same("film", Makers.rich().guestOf(1, 0), 1));
        e.test("1: the minute of coming", () -> guestAtTheEdges(1, 0, 1999));
        e.test("2: the minute of going", () -> guestAtTheEdges(2, 1, 2000));
        e.test("3: the showing behind which the guest greets, NONE without one", () -> {
            ReelScreens x = Makers.rich();
            e.same("greets", x.guestOf(0, 3), 0);
            e.same("comes a minute late", x.guestOf(1, 3), -1);
            x.move(1, 301);
            e.same("comes just in time", x.guestOf(1, 3), 1);
            x.move(1, 380);
            e.same("goes just in time", x.guestOf(1, 3), 1);
            x.move(1, 381);
            e.same("goes a minute early", x.guestOf(1, 3), -1);
            x.callOff(0);
            e.same("greets behind the next one", x.guestOf(0, 3), 1);
            x.callOff(1);
            e.same("none is left", x.guestOf(0, 3), -1);
            ReelScreens y = Makers.twelveShowings();
            y.guest(0, 1101, 2000);
            e.same("the greatest number", y.guestOf(0, 3), 11);
        });
        e.test("Returns the number.", () -> e.row("guest 0", (x, what) -> x.guestOf(0, what), Makers.rich(),
                0, 0, 2000, 0));
        int[][] values = {{0, 1, -1, 2, Edges.LEAST, Edges.GREATEST}, {0, 3, -1, 4, Edges.LEAST, Edges.GREATEST}};
        Edges.Due due = v -> v[0] < 0 || v[0] > 1 ? Check.INDEX : v[1] < 0 || v[1] > 3 ? Check.ARGUMENT : 0;
        e.test("Throws `IndexOutOfBoundsException` if there is no such guest", () -> {
            e.grid(Makers::rich, values, due, (x, v) -> x.guestOf(v[0], v[1]));
            e.refused("none at all", Check.INDEX, Makers::bare, x -> x.guestOf(0, 4));
        });
        e.test("Throws `IllegalArgumentException` if what is not 0 to 3",
                () -> e.range(0, 3, Check.ARGUMENT, Makers::rich, (x, what) -> x.guestOf(0, what)));
    }

    private void guestAtTheEdges(int what, int least, int greatest) {
        ReelScreens x = Makers.bare();
        x.guest(0, 0, 1);
        x.guest(0, 1999, 2000);
        e.same("the least", x.guestOf(0, what), least);
        e.same("the greatest", x.guestOf(1, what), greatest);
    }

    private void juror() {
        e.test("Returns something of a juror", () -> e.look(Makers::rich, x -> x.juror(1, 2)));
        e.test("`juror`: 0 to 2", () -> e.range(0, 2, Check.INDEX, Makers::rich, (x, juror) -> x.juror(juror, 2)));
        e.test("0: showings to which the juror goes", () -> {
            ReelScreens x = Makers.twelveShowings();
            for (int showing = 0; showing < 12; showing++) {
                e.same("showings", x.juror(1, 0), showing);
                x.attend(1, showing);
            }
            e.same("all showings", x.juror(1, 0), 12);
            e.same("of another", x.juror(0, 0), 0);
        });
        e.test("1: a mask of the films that the juror has seen", () -> {
            ReelScreens x = Makers.shownAt(0, 100, 200, 300, 400, 500, 600, 700);
            for (int film = 7; film >= 0; film--) {
                x.attend(2, film);
                e.same("films", x.juror(2, 1), 256 - (1 << film));
            }
            x.show(0, 0, 900, 0);
            x.attend(2, 8);
            e.same("a film seen twice", x.juror(2, 1), 255);
        });
        e.test("2: points given to these", () -> {
            ReelScreens x = Makers.shownAt(0, 100, 200, 300, 400, 500, 600, 700);
            for (int film = 0; film < 8; film++) {
                e.same("points", x.juror(0, 2), 10 * film);
                x.attend(0, film);
                x.vote(0, film, 10);
            }
            e.same("all points", x.juror(0, 2), 80);
            x.callOff(3);
            e.same("without a film that is not seen any more", x.juror(0, 2), 70);
        });
        e.test("Returns the number.", () -> {
            e.row("juror 0", (x, what) -> x.juror(0, what), Makers.rich(), 1, 1, 7);
            e.row("juror 1", (x, what) -> x.juror(1, what), Makers.rich(), 2, 3, 4);
            e.row("juror 2", (x, what) -> x.juror(2, what), Makers.rich(), 0, 0, 0);
        });
        int[][] values = {JURORS, {0, 2, -1, 3, Edges.LEAST, Edges.GREATEST}};
        Edges.Due due = v -> v[0] < 0 || v[0] > 2 ? Check.INDEX : v[1] < 0 || v[1] > 2 ? Check.ARGUMENT : 0;
        e.test("Throws `IndexOutOfBoundsException` if there is no such juror",
                () -> e.grid(Makers::rich, values, due, (x, v) -> x.juror(v[0], v[1])));
        e.test("Throws `IllegalArgumentException` if what is not 0 to 2",
                () -> e.range(0, 2, Check.ARGUMENT, Makers::rich, (x, what) -> x.juror(2, what)));
    }
}
