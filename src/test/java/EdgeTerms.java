/** Each sentence of the document's terms: films, screens, showings, guests, jurors, settings. */
final class EdgeTerms {
    private final Edges e;

    EdgeTerms(Edges edges) {
        e = edges;
    }

    void run() {
        e.heading("Terms");
        e.test("All numbers are integers, but for a share.", this::aShareIsNoInteger);
        e.test("Minutes are counted from 0 to 1999; a time from a to b has the minutes a to b less 1.",
                this::minutesFrom0To1999);
        e.test("There are at most 8 films, numbered from 0, each with 1 to 6 reels, which all run 10 to 25 minutes.",
                this::atMost8Films);
        e.test("There are 3 screens, numbered from 0, each with 50 to 400 seats, at first 100, 200 and 300.",
                this::threeScreens);
        e.heading("Showings");
        showings();
        reasons();
        e.heading("Guests");
        guests();
        jurors();
        e.heading("Settings");
        settings();
    }

    private void showings() {
        e.test("There are at most 12 showings, numbered from 0 in the order in which they were made",
                this::atMost12Showings);
        e.test("if one goes, those behind it have numbers that are less by 1", this::numbersAreLessBy1);
        e.test("A showing has a film, a screen, a start, and a break, 0 to 20 minutes.", this::aShowingHas);
        e.test("Its reels run one behind the other from the start on", this::reelsRunOneBehindTheOther);
        e.test("behind the first half of the reels (half as many, rounded up) comes the break, also if no reel"
                + " comes behind it", this::theBreakComesBehindHalf);
        e.test("It ends behind all its reels and the break.", this::itEndsBehindAll);
    }

    private void reasons() {
        e.test("A showing is refused for the first of these reasons that applies", this::theFirstReasonApplies);
        e.test("1: there are 12", this::thereAre12);
        e.test("2: it would end behind 2000", this::itWouldEndBehind2000);
        e.test("3: on its screen another showing ends less than setting 1 minutes ahead of its start",
                this::anotherEndsTooNearAhead);
        e.test("or starts less than setting 1 minutes behind its end", this::anotherStartsTooNearBehind);
        e.test("(or both run in one minute)", this::bothRunInOneMinute);
        e.test("4: some reel of it would run at a minute at which the same reel runs on another screen",
                this::theSameReelRuns);
        e.test("or, on another screen, ends less than setting 0 minutes ahead of its beginning there",
                this::theReelEndsTooNearAhead);
        e.test("or begins less than setting 0 minutes behind its end there", this::theReelBeginsTooNearBehind);
    }

    private void guests() {
        e.test("There are at most 6 guests, numbered from 0", this::atMost6Guests);
        e.test("each has a film, a minute of coming, and one of going, greater than that", this::aGuestHas);
        e.test("A guest greets behind a showing of the film that ends at the minute of coming or later",
                this::itEndsAtTheMinuteOfComing);
        e.test("and so that setting 2 minutes behind its end are not beyond the minute of going",
                this::greetingIsNotBeyondTheMinuteOfGoing);
        e.test("of several behind the one that ends first, of several of those the lowest",
                this::ofSeveralTheOneThatEndsFirst);
    }

    private void jurors() {
        e.test("There are 3 jurors, numbered from 0.", this::threeJurors);
        e.test("A juror goes to showings, which may not run in one minute", this::notInOneMinute);
        e.test("and behind which setting 3 minutes have to be left ahead of the next one", this::minutesAreLeft);
        e.test("A juror who goes to some showing of a film has seen it", this::goingIsSeeing);
        e.test("and gives it 0 to 10 points (0 at first; points stay, but count only for films that the juror"
                + " has seen)", this::pointsStay);
        e.test("The prize goes to the film with the most points of all jurors, of those that at least 2 jurors"
                + " have seen; of several to the lowest.", this::thePrize);
        e.test("If a showing goes, no juror goes to it any more.", this::noJurorGoesToWhatIsGone);
        e.test("If it is moved, those jurors go to it no more who could not go to it then, beside the others.",
                this::jurorsOfWhatIsMoved);
    }

    private void settings() {
        e.test("0: minutes for carrying a reel, 0 to 60, at first 10", () -> setting(0, 10));
        e.test("1: turnaround, 0 to 60, at first 15", () -> setting(1, 15));
        e.test("2: minutes for greeting, 0 to 60, at first 10", () -> setting(2, 10));
        e.test("3: minutes between showings of a juror, 0 to 60, at first 5", () -> setting(3, 5));
        e.test("When a setting changes, showings, and what jurors go to, stay.", this::whatASettingLeaves);
    }

    private void aShareIsNoInteger() {
        for (java.lang.reflect.Method method : ReelScreens.class.getMethods()) {
            if (method.getDeclaringClass() == ReelScreens.class) {
                String name = method.getName();
                Class<?> due = name.equals("use") ? double.class : name.equals("digest") ? long.class : int.class;
                e.holds(name + " answers " + method.getReturnType(), method.getReturnType() == due);
            }
        }
    }

    private void minutesFrom0To1999() {
        ReelScreens x = Makers.bare();
        x.show(0, 0, 0, 0);
        x.show(0, 0, 1990, 0);
        int[] minutes = {0, 9, 10, 1989, 1990, 1999};
        int[] due = {0, 0, -1, -1, 0, 0};
        for (int i = 0; i < minutes.length; i++) {
            e.same("runs at " + minutes[i], x.runs(0, minutes[i]), due[i]);
        }
        e.same("the last minute", x.showing(1, 3), 2000);
        e.same("a showing at the last minute", x.whyNot(0, 1, 1999, 0, 0), 2);
    }

    private void atMost8Films() {
        ReelScreens x = Makers.empty();
        for (int film = 0; film < 8; film++) {
            e.same("film", x.film(1 + film % 6, 10 + 2 * film), film);
        }
        for (int film = 0; film < 8; film++) {
            e.same("reels", x.filmOf(film, 0), 1 + film % 6);
            e.same("minutes", x.filmOf(film, 1), 10 + 2 * film);
        }
        e.refused("a ninth", Check.STATE, Makers::eightFilms, y -> y.film(1, 10));
        e.refused("the film 8", Check.INDEX, Makers::eightFilms, y -> y.filmOf(8, 0));
        e.refused("the film 0 of none", Check.INDEX, Makers::empty, y -> y.filmOf(0, 0));
        e.range(1, 6, Check.ARGUMENT, Makers::empty, (y, reels) -> y.film(reels, 10));
        e.range(10, 25, Check.ARGUMENT, Makers::empty, (y, minutes) -> y.film(6, minutes));
    }

    private void threeScreens() {
        e.range(0, 2, Check.INDEX, Makers::empty, (x, screen) -> x.screen(screen, 0));
        e.row("seats", (x, screen) -> x.screen(screen, 0), Makers.empty(), 100, 200, 300);
        e.range(50, 400, Check.ARGUMENT, Makers::empty, (x, seats) -> x.seats(0, seats));
        e.range(50, 400, Check.ARGUMENT, Makers::empty, (x, seats) -> x.seats(2, seats));
    }

    private void atMost12Showings() {
        ReelScreens x = Makers.bare();
        for (int showing = 0; showing < 12; showing++) {
            e.same("show", x.show(0, 0, 1990 - 10 * showing, 0), showing);
        }
        e.row("start", (y, showing) -> y.showing(showing, 2), x,
                1990, 1980, 1970, 1960, 1950, 1940, 1930, 1920, 1910, 1900, 1890, 1880);
        e.refused("a thirteenth", Check.STATE, Makers::twelveShowings, y -> y.show(0, 1, 1500, 0));
        e.refused("the showing 12", Check.INDEX, Makers::twelveShowings, y -> y.showing(12, 0));
        e.refused("the showing 0 of none", Check.INDEX, Makers::bare, y -> y.showing(0, 0));
    }

    private void numbersAreLessBy1() {
        for (int gone = 0; gone < 12; gone++) {
            ReelScreens x = Makers.twelveShowings();
            x.attend(0, gone == 11 ? 10 : 11);
            x.callOff(gone);
            e.same("showings", x.count(1), 11);
            for (int showing = 0; showing < 11; showing++) {
                e.same("start", x.showing(showing, 2), 100 * (showing < gone ? showing : showing + 1));
                e.same("goers", x.showing(showing, 5), showing == 10 ? 1 : 0);
            }
            e.same("a new one comes last", x.show(0, 1, 1500, 0), 11);
        }
        e.refused("the number that is gone", Check.INDEX, () -> {
            ReelScreens x = Makers.twelveShowings();
            x.callOff(0);
            return x;
        }, x -> x.showing(11, 0));
    }

    private void aShowingHas() {
        e.row("showing 0", (x, what) -> x.showing(0, what), Makers.rich(), 0, 0, 100, 125, 5, 3);
        e.row("showing 2", (x, what) -> x.showing(2, what), Makers.rich(), 0, 2, 600, 620, 0, 0);
        e.range(0, 20, Check.ARGUMENT, Makers::bare, (x, pause) -> x.show(0, 0, 0, pause));
        for (int pause = 0; pause <= 20; pause++) {
            ReelScreens x = Makers.bare();
            x.show(0, 1, 7, pause);
            e.row("showing", (y, what) -> y.showing(0, what), x, 0, 1, 7, 17 + pause, pause, 0);
        }
    }

    private void reelsRunOneBehindTheOther() {
        ReelScreens x = Makers.empty();
        x.film(6, 25);
        x.show(0, 2, 1850, 0);
        e.row("reel", (y, reel) -> y.reel(0, reel), x, 1850, 1875, 1900, 1925, 1950, 1975);
        for (int minute = 1850; minute < 2000; minute++) {
            e.same("runs at " + minute, x.runs(2, minute), (minute - 1850) / 25);
        }
        e.same("ahead of it", x.runs(2, 1849), -1);
    }

    private void theBreakComesBehindHalf() {
        int[] half = {1, 1, 2, 2, 3, 3};
        for (int reels = 1; reels <= 6; reels++) {
            ReelScreens x = Makers.empty();
            x.film(reels, 10);
            x.show(0, 0, 100, 20);
            int breakAt = 100 + 10 * half[reels - 1];
            for (int minute = 90; minute < 200; minute++) {
                boolean isAhead = minute >= 100 && minute < breakAt;
                boolean isBehind = minute >= breakAt + 20 && minute < 120 + 10 * reels;
                int due = isAhead ? (minute - 100) / 10 : isBehind ? (minute - 120) / 10 : -1;
                e.same(reels + " reels at " + minute, x.runs(0, minute), due);
            }
            e.same("end", x.showing(0, 3), 120 + 10 * reels);
        }
    }

    private void itEndsBehindAll() {
        for (int reels = 1; reels <= 6; reels++) {
            for (int minutes = 10; minutes <= 25; minutes++) {
                ReelScreens x = Makers.empty();
                x.film(reels, minutes);
                x.show(0, 0, 0, 0);
                x.show(0, 0, 1000, 20);
                e.same("end without a break", x.showing(0, 3), reels * minutes);
                e.same("end with a break", x.showing(1, 3), 1020 + reels * minutes);
            }
        }
    }

    private void theFirstReasonApplies() {
        ReelScreens x = Makers.twelveShowings();
        e.same("1 ahead of 2", x.whyNot(0, 0, 1999, 0, 0), 1);
        e.same("1 ahead of 3", x.whyNot(0, 0, 0, 0, 0), 1);
        e.same("1 ahead of 4", x.whyNot(0, 1, 0, 0, 0), 1);
        ReelScreens y = Makers.bare();
        y.show(0, 0, 1990, 0);
        e.same("2 ahead of 3", y.whyNot(0, 0, 1991, 0, 0), 2);
        e.same("2 ahead of 4", y.whyNot(0, 1, 1991, 0, 0), 2);
        y.show(0, 1, 1000, 0);
        y.show(0, 0, 985, 5);
        e.same("3 ahead of 4", y.whyNot(0, 1, 990, 1, 0), 3);
        e.same("4 alone", y.whyNot(0, 1, 990, 0, 0), 4);
        e.same("none", y.whyNot(0, 1, 975, 0, 0), 0);
    }

    private void thereAre12() {
        ReelScreens x = Makers.twelveShowings();
        e.same("at 12", x.whyNot(0, 1, 1500, 0, 0), 1);
        x.callOff(11);
        e.same("at 11", x.whyNot(0, 1, 1500, 0, 0), 0);
        e.same("show", x.show(0, 1, 1500, 0), 11);
        e.same("at 12 again", x.whyNot(0, 2, 1700, 0, 0), 1);
    }

    private void itWouldEndBehind2000() {
        for (int reels = 1; reels <= 6; reels++) {
            for (int pause = 0; pause <= 20; pause++) {
                ReelScreens x = Makers.empty();
                x.film(reels, 25);
                int last = 2000 - 25 * reels - pause;
                e.same("ends at 2000", x.whyNot(0, 0, last, pause, 0), 0);
                e.same("ends at 2001", x.whyNot(0, 0, last + 1, pause, 0), 2);
                e.same("starts at 1999", x.whyNot(0, 0, 1999, pause, 0), 2);
                e.same("show", x.show(0, 0, last, pause), 0);
                e.same("end", x.showing(0, 3), 2000);
            }
        }
    }

    private void anotherEndsTooNearAhead() {
        for (int setting = 0; setting <= 60; setting++) {
            ReelScreens x = Makers.bare();
            x.film(2, 11);
            x.set(1, setting);
            x.show(0, 1, 500, 7);
            e.same("just left", x.whyNot(1, 1, 517 + setting, 0, 0), 0);
            e.same("a minute less", x.whyNot(1, 1, 516 + setting, 0, 0), 3);
            e.same("another screen", x.whyNot(1, 2, 516 + setting, 0, 0), 0);
        }
    }

    private void anotherStartsTooNearBehind() {
        for (int setting = 0; setting <= 60; setting++) {
            ReelScreens x = Makers.bare();
            x.film(2, 11);
            x.set(1, setting);
            x.show(0, 1, 500, 7);
            e.same("just left", x.whyNot(1, 1, 475 - setting, 3, 0), 0);
            e.same("a minute less", x.whyNot(1, 1, 476 - setting, 3, 0), 3);
            e.same("a minute less by the break", x.whyNot(1, 1, 475 - setting, 4, 0), 3);
            e.same("another screen", x.whyNot(1, 0, 476 - setting, 3, 0), 0);
        }
    }

    private void bothRunInOneMinute() {
        ReelScreens x = Makers.bare();
        x.film(3, 10);
        x.show(1, 0, 500, 0);
        for (int start = 480; start <= 540; start++) {
            e.same("at " + start, x.whyNot(0, 0, start, 0, 0), start > 490 && start < 530 ? 3 : 0);
        }
        ReelScreens y = Makers.bare();
        y.film(3, 10);
        y.show(0, 0, 500, 0);
        for (int start = 460; start <= 520; start++) {
            e.same("around, at " + start, y.whyNot(1, 0, start, 0, 0), start > 470 && start < 510 ? 3 : 0);
        }
        ReelScreens z = Makers.bare();
        z.show(0, 0, 500, 20);
        e.same("in the other's break", z.whyNot(0, 0, 515, 0, 0), 3);
        e.same("at the end of the other's break", z.whyNot(0, 0, 530, 0, 0), 0);
        e.same("the other in its break", z.whyNot(0, 0, 485, 20, 0), 3);
        e.same("its break ends as the other starts", z.whyNot(0, 0, 470, 20, 0), 0);
    }

    private void theSameReelRuns() {
        ReelScreens x = Makers.bare();
        x.film(2, 10);
        x.show(1, 0, 500, 20);
        // There the reel 0 runs from 500 to 510, the reel 1 from 530 to 540.
        for (int start = 470; start <= 560; start++) {
            boolean isFirst = start > 490 && start < 510;
            boolean isSecond = start > 510 && start < 530;
            e.same("at " + start, x.whyNot(1, 1, start, 0, 2), isFirst ? 0 : isSecond ? 1 : -1);
        }
        e.same("another film", x.whyNot(0, 1, 500, 0, 0), 0);
        e.same("the reel 1 while the reel 0 runs", x.whyNot(1, 1, 490, 0, 0), 0);
        e.same("the same screen has no reason 4", x.whyNot(1, 0, 500, 20, 0), 3);
    }

    private void theReelEndsTooNearAhead() {
        for (int setting = 0; setting <= 60; setting++) {
            ReelScreens x = Makers.bare();
            x.set(0, setting);
            x.show(0, 0, 500, 0);
            e.same("just left", x.whyNot(0, 1, 490 - setting, 0, 0), 0);
            e.same("a minute less", x.whyNot(0, 1, 491 - setting, 0, 0), 4);
            e.same("on its screen it is not carried", x.whyNot(0, 0, 490, 0, 0), 0);
        }
    }

    private void theReelBeginsTooNearBehind() {
        for (int setting = 0; setting <= 60; setting++) {
            ReelScreens x = Makers.bare();
            x.set(0, setting);
            x.show(0, 0, 500, 20);
            e.same("just left", x.whyNot(0, 1, 510 + setting, 0, 0), 0);
            e.same("a minute less", x.whyNot(0, 1, 509 + setting, 0, 0), 4);
            e.same("on its screen it is not carried", x.whyNot(0, 0, 530, 0, 0), 0);
        }
    }

    private void atMost6Guests() {
        ReelScreens x = Makers.bare();
        for (int guest = 0; guest < 6; guest++) {
            e.same("guest", x.guest(0, guest, 100 + guest), guest);
        }
        e.row("come", (y, guest) -> y.guestOf(guest, 1), x, 0, 1, 2, 3, 4, 5);
        e.refused("a seventh", Check.STATE, Makers::sixGuests, y -> y.guest(0, 0, 1));
        e.refused("the guest 6", Check.INDEX, Makers::sixGuests, y -> y.guestOf(6, 0));
        e.refused("the guest 0 of none", Check.INDEX, Makers::bare, y -> y.guestOf(0, 0));
    }

    private void aGuestHas() {
        e.row("guest 1", (x, what) -> x.guestOf(1, what), Makers.rich(), 1, 311, 400, -1);
        e.answers("going a minute later", Makers::rich, x -> x.guest(0, 5, 6));
        e.refused("going at once", Check.ARGUMENT, Makers::rich, x -> x.guest(0, 5, 5));
        e.refused("going earlier", Check.ARGUMENT, Makers::rich, x -> x.guest(0, 5, 4));
    }

    private void itEndsAtTheMinuteOfComing() {
        for (int pause = 0; pause <= 20; pause += 20) {
            ReelScreens x = Makers.bare();
            x.film(1, 10);
            x.show(0, 0, 500, pause);
            x.guest(0, 509 + pause, 2000);
            x.guest(0, 510 + pause, 2000);
            x.guest(0, 511 + pause, 2000);
            x.guest(1, 0, 2000);
            e.row("greets behind", (y, guest) -> y.guestOf(guest, 3), x, 0, 0, -1, -1);
            e.same("greeters", x.count(3), 2);
        }
    }

    private void greetingIsNotBeyondTheMinuteOfGoing() {
        for (int setting = 0; setting <= 60; setting++) {
            ReelScreens x = Makers.bare();
            x.set(2, setting);
            x.show(0, 0, 500, 0);
            x.guest(0, 0, 510 + setting);
            x.guest(0, 0, 509 + setting);
            x.guest(0, 0, 511 + setting);
            e.row("greets behind", (y, guest) -> y.guestOf(guest, 3), x, 0, -1, 0);
        }
        ReelScreens y = Makers.bare();
        y.show(0, 0, 1990, 0);
        y.guest(0, 1999, 2000);
        e.same("an end at 2000", y.guestOf(0, 3), 0);
        y.set(2, 1);
        e.same("an end at 2000 and a minute", y.guestOf(0, 3), -1);
    }

    private void ofSeveralTheOneThatEndsFirst() {
        ReelScreens x = Makers.bare();
        x.film(1, 10);
        x.show(0, 0, 700, 0);
        x.show(0, 1, 500, 20);
        x.show(0, 2, 520, 0);
        x.show(0, 0, 300, 0);
        x.show(1, 0, 100, 0);
        x.guest(0, 0, 2000);
        x.guest(0, 311, 2000);
        x.guest(0, 531, 2000);
        x.guest(0, 0, 309);
        e.same("the same end", x.showing(1, 3), x.showing(2, 3));
        e.row("greets behind", (y, guest) -> y.guestOf(guest, 3), x, 3, 1, 0, -1);
        x.callOff(1);
        e.row("greets behind", (y, guest) -> y.guestOf(guest, 3), x, 2, 1, 0, -1);
    }

    private void threeJurors() {
        e.range(0, 2, Check.INDEX, Makers::rich, (x, juror) -> x.juror(juror, 0));
        e.range(0, 2, Check.INDEX, Makers::rich, (x, juror) -> x.attend(juror, 2));
    }

    private void notInOneMinute() {
        for (int start = 480; start <= 520; start++) {
            ReelScreens x = Makers.shownAt(500, start);
            x.set(3, 0);
            x.attend(2, 0);
            boolean isFree = start <= 490 || start >= 510;
            e.same("beside one at 500, at " + start, Edges.kindOf(y -> y.attend(2, 1), x), isFree ? 0 : Check.STATE);
        }
    }

    private void minutesAreLeft() {
        for (int setting = 0; setting <= 60; setting++) {
            ReelScreens x = Makers.shownAt(500, 510 + setting, 490 - setting);
            x.set(3, setting);
            x.attend(1, 0);
            e.same("just left behind it", x.attend(1, 1), 2);
            e.same("just left ahead of it", x.attend(1, 2), 3);
            x.set(3, setting + (setting < 60 ? 1 : 0));
            x.attend(2, 0);
            int due = setting < 60 ? Check.STATE : 0;
            e.same("a minute less behind it", Edges.kindOf(y -> y.attend(2, 1), x), due);
            e.same("a minute less ahead of it", Edges.kindOf(y -> y.attend(2, 2), x), due);
        }
        ReelScreens z = Makers.bare();
        z.film(1, 10);
        z.film(1, 10);
        z.set(3, 5);
        z.show(0, 0, 500, 20);
        z.show(1, 1, 534, 0);
        z.show(2, 2, 535, 0);
        z.attend(0, 0);
        e.same("4 minutes behind its break", Edges.kindOf(y -> y.attend(0, 1), z), Check.STATE);
        e.same("5 minutes behind its break", z.attend(0, 2), 2);
    }

    private void goingIsSeeing() {
        ReelScreens x = Makers.shownAt(0, 100, 200);
        e.same("none", x.filmOf(1, 4), 0);
        for (int juror = 0; juror < 3; juror++) {
            x.attend(juror, 1);
            e.same("seen by", x.filmOf(1, 4), (2 << juror) - 1);
            e.same("has seen", x.juror(juror, 1), 2);
        }
        e.same("another film", x.filmOf(0, 4), 0);
        x.show(1, 0, 500, 0);
        x.attend(2, 3);
        x.callOff(1);
        e.same("by the other showing", x.filmOf(1, 4), 4);
    }

    private void pointsStay() {
        ReelScreens x = Makers.shownAt(0, 100, 200);
        x.attend(0, 1);
        e.same("0 at first", x.filmOf(1, 5), 0);
        e.same("0 at first", x.vote(0, 1, 10), 0);
        x.callOff(1);
        e.same("they do not count", x.filmOf(1, 5), 0);
        e.same("they do not count", x.juror(0, 2), 0);
        x.show(1, 2, 900, 0);
        e.same("they do not count yet", x.filmOf(1, 5), 0);
        x.attend(1, 2);
        e.same("nor for another juror", x.filmOf(1, 5), 0);
        x.attend(0, 2);
        e.same("they stayed", x.filmOf(1, 5), 10);
        e.same("they stayed", x.juror(0, 2), 10);
        e.same("they stayed", x.vote(0, 1, 0), 10);
        e.range(0, 10, Check.ARGUMENT, Makers::rich, (y, points) -> y.vote(0, 0, points));
    }

    private void thePrize() {
        ReelScreens x = Makers.shownAt(0, 100, 200);
        e.same("no juror", x.count(6), -1);
        x.attend(0, 2);
        x.vote(0, 2, 10);
        e.same("1 juror", x.count(6), -1);
        x.attend(1, 2);
        e.same("2 jurors", x.count(6), 2);
        x.attend(0, 1);
        x.attend(1, 1);
        x.attend(2, 1);
        x.vote(0, 1, 4);
        x.vote(1, 1, 5);
        e.same("9 to 10 points", x.count(6), 2);
        x.vote(2, 1, 1);
        e.same("10 to 10 points", x.count(6), 1);
        x.vote(2, 1, 2);
        e.same("11 to 10 points", x.count(6), 1);
        x.callOff(1);
        e.same("points of whom has not seen it do not count", x.count(6), 2);
        x.show(1, 0, 700, 0);
        e.same("nor by a new showing", x.count(6), 2);
        e.same("not seen", x.filmOf(1, 5), 0);
        thePrizeWithoutPoints();
    }

    private void thePrizeWithoutPoints() {
        ReelScreens x = Makers.shownAt(0, 100, 200);
        x.attend(0, 1);
        x.attend(1, 1);
        x.attend(0, 2);
        x.attend(2, 2);
        e.same("0 to 0 points", x.count(6), 1);
        x.vote(2, 2, 1);
        e.same("0 to 1 points", x.count(6), 2);
    }

    private void noJurorGoesToWhatIsGone() {
        ReelScreens x = Makers.shownAt(0, 100, 200);
        for (int juror = 0; juror < 3; juror++) {
            x.attend(juror, 1);
            x.attend(juror, 2);
        }
        e.same("goers", x.callOff(1), 3);
        for (int juror = 0; juror < 3; juror++) {
            e.same("showings", x.juror(juror, 0), 1);
            e.same("films", x.juror(juror, 1), 4);
        }
        x.show(1, 1, 100, 0);
        e.same("nor to one that is made like it", x.showing(2, 5), 0);
        e.same("attend", x.attend(0, 2), 2);
    }

    private void jurorsOfWhatIsMoved() {
        ReelScreens x = Makers.shownAt(100, 300, 600);
        x.attend(0, 0);
        x.attend(0, 1);
        x.attend(1, 0);
        x.attend(1, 2);
        x.attend(2, 0);
        e.same("5 minutes ahead of the juror 0's other", x.move(0, 285), 0);
        e.same("4 minutes ahead of it", x.move(0, 286), 1);
        e.same("goers", x.showing(0, 5), 6);
        e.same("goers of the other", x.showing(1, 5), 1);
        e.same("5 minutes behind the juror 1's other", x.move(0, 615), 0);
        e.same("4 minutes behind it", x.move(0, 614), 1);
        e.same("goers", x.showing(0, 5), 4);
        e.same("goers of the other", x.showing(2, 5), 2);
        e.same("in the same minute as what nobody else goes to", x.move(0, 600), 0);
        e.same("moved away, those who go no more do not come back", x.move(0, 100), 0);
        e.same("goers", x.showing(0, 5), 4);
    }

    private void setting(int number, int first) {
        e.same("at first", Makers.empty().count(7 + number), first);
        e.range(0, 60, Check.ARGUMENT, Makers::empty, (x, value) -> x.set(number, value));
        ReelScreens x = Makers.empty();
        e.same("previous", x.set(number, 60), first);
        e.same("previous", x.set(number, 0), 60);
        e.same("now", x.count(7 + number), 0);
        for (int other = 0; other < 4; other++) {
            e.same("the others", x.count(7 + other), other == number ? 0 : Makers.empty().count(7 + other));
        }
    }

    private void whatASettingLeaves() {
        ReelScreens x = Makers.shownAt(100, 110, 120);
        x.set(0, 0);
        x.set(1, 0);
        x.set(3, 0);
        x.show(0, 1, 120, 0);
        x.attend(0, 0);
        x.attend(0, 1);
        x.attend(0, 2);
        int[] before = new int[24];
        for (int i = 0; i < 24; i++) {
            before[i] = x.showing(i / 6, i % 6);
        }
        x.set(0, 60);
        x.set(1, 60);
        x.set(3, 60);
        e.same("showings", x.count(1), 4);
        for (int i = 0; i < 24; i++) {
            e.same("showing " + i / 6 + ", " + i % 6, x.showing(i / 6, i % 6), before[i]);
        }
        e.same("visits", x.juror(0, 0), 3);
    }
}
