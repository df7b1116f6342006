/** Objects in the states that the tests of the edges begin with; each call makes a new one. */
final class Makers {
    private Makers() {
    }

    static ReelScreens empty() {
        return new ReelScreens();
    }

    /** One film of one reel of 10 minutes, and no minutes for carrying, turnaround, greeting and jurors. */
    static ReelScreens bare() {
        ReelScreens x = new ReelScreens();
        x.film(1, 10);
        for (int setting = 0; setting < 4; setting++) {
            x.set(setting, 0);
        }
        return x;
    }

    /**
     * Three films (2 reels of 10 minutes, 1 of 10, 3 of 20), the showings 0 (film 0, screen 0, 100 to
     * 125 with a break of 5), 1 (film 1, screen 1, 300 to 310) and 2 (film 0, screen 2, 600 to 620),
     * the guests 0 (film 0, 0 to 2000) and 1 (film 1, 311 to 400), the jurors 0 and 1 at the showing 0
     * and 1 at the showing 1, points 7 and 4, a stop (part 1, reason 3, showing 0), two showings called
     * off, a snapshot, two saved states, and the text 0/1@900 in the buffer.
     */
    static ReelScreens rich() {
        ReelScreens x = new ReelScreens();
        x.film(2, 10);
        x.film(1, 10);
        x.film(3, 20);
        PlanTests.write(x, "0/0@100+5;1/1@300;0/2@600;1/2@1000");
        x.program();
        x.callOff(3);
        x.guest(0, 0, 2000);
        x.guest(1, 311, 400);
        x.attend(0, 0);
        x.attend(1, 0);
        x.attend(1, 1);
        x.vote(0, 0, 7);
        x.vote(1, 0, 4);
        PlanTests.write(x, "1/1@500;1/0@120");
        x.program();
        x.callOff(3);
        x.keep();
        while (x.count(11) > 0) {
            x.undo();
        }
        x.restore();
        x.seats(1, 222);
        PlanTests.write(x, "0/1@900");
        return x;
    }

    static ReelScreens richWithSixSaved() {
        ReelScreens x = rich();
        for (int i = 0; i < 4; i++) {
            x.set(i, 20 + i);
        }
        return x;
    }

    static ReelScreens eightFilms() {
        ReelScreens x = new ReelScreens();
        for (int film = 0; film < 8; film++) {
            x.film(1 + film % 6, 10 + film);
        }
        return x;
    }

    /** 12 showings of a film of one reel of 10 minutes, on the screen 0, at 0, 100 and so on to 1100. */
    static ReelScreens twelveShowings() {
        ReelScreens x = new ReelScreens();
        x.film(1, 10);
        for (int showing = 0; showing < 12; showing++) {
            x.show(0, 0, 100 * showing, 0);
        }
        return x;
    }

    static ReelScreens sixGuests() {
        ReelScreens x = new ReelScreens();
        x.film(1, 10);
        for (int guest = 0; guest < 6; guest++) {
            x.guest(0, 100 * guest, 2000 - guest);
        }
        return x;
    }

    static ReelScreens sixtyCodes() {
        ReelScreens x = new ReelScreens();
        for (int code = 0; code < 60; code++) {
            x.append(33 + code);
        }
        return x;
    }

    /** Films of one reel of 10 minutes, each shown at the start that is told, on the screens 0, 1 and 2 by turns. */
    static ReelScreens shownAt(int... starts) {
        ReelScreens x = new ReelScreens();
        for (int i = 0; i < starts.length; i++) {
            x.film(1, 10);
            x.show(i, i % 3, starts[i], 0);
        }
        return x;
    }
}
