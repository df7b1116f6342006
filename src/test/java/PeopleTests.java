/** Promises 8 to 10, 24 and 25: guests and jurors. */
final class PeopleTests {
    private final Check check;

    PeopleTests(Check check) {
        this.check = check;
    }

    void run() {
        guest();
        attend();
        vote();
        guestOf();
        juror();
        prize();
    }

    private void guest() {
        check.at("promise 8");
        ReelScreens x = new ReelScreens();
        x.film(1, 10);
        check.same("guest", x.guest(0, 0, 1), 0);
        check.same("guest", x.guest(0, 1999, 2000), 1);
        check.refused("film -1", x, Check.INDEX, () -> x.guest(-1, 0, 1));
        check.refused("film 1 at a wrong time", x, Check.INDEX, () -> x.guest(1, 5, 5));
        check.refused("come -1", x, Check.ARGUMENT, () -> x.guest(0, -1, 1));
        check.refused("come 2000", x, Check.ARGUMENT, () -> x.guest(0, 2000, 2001));
        check.refused("leave is come", x, Check.ARGUMENT, () -> x.guest(0, 7, 7));
        check.refused("leave 2001", x, Check.ARGUMENT, () -> x.guest(0, 7, 2001));
        for (int guest = 2; guest < 6; guest++) {
            check.same("guest", x.guest(0, guest, 100), guest);
        }
        check.refused("a seventh", x, Check.STATE, () -> x.guest(0, 0, 1));
        check.refused("a seventh at a wrong time", x, Check.ARGUMENT, () -> x.guest(0, 1, 1));
        check.same("count", x.count(2), 6);
        x.undo();
        check.same("count", x.count(2), 5);
    }

    private void attend() {
        check.at("promise 9");
        ReelScreens x = new ReelScreens();
        for (int film = 0; film < 4; film++) {
            x.film(1, 10);
        }
        x.show(0, 0, 100, 2);
        x.show(1, 1, 116, 0);
        x.show(2, 2, 117, 0);
        x.show(3, 1, 85, 0);
        check.same("attend", x.attend(1, 0), 1);
        check.refused("again", x, Check.STATE, () -> x.attend(1, 0));
        check.refused("4 minutes behind the break", x, Check.STATE, () -> x.attend(1, 1));
        check.same("5 minutes behind the break", x.attend(1, 2), 2);
        check.same("5 minutes ahead", x.attend(1, 3), 3);
        check.same("goers", x.showing(0, 5), 2);
        check.same("another juror", x.attend(0, 1), 1);
        check.refused("juror -1", x, Check.INDEX, () -> x.attend(-1, 0));
        check.refused("juror 3", x, Check.INDEX, () -> x.attend(3, 0));
        check.refused("showing -1", x, Check.INDEX, () -> x.attend(1, -1));
        check.refused("showing 4", x, Check.INDEX, () -> x.attend(1, 4));
        x.undo();
        check.same("gone again", x.juror(0, 0), 0);
        attendByTheSetting(x);
    }

    private void attendByTheSetting(ReelScreens x) {
        x.set(3, 0);
        check.same("attend", x.attend(0, 1), 1);
        check.refused("both run in one minute", x, Check.STATE, () -> x.attend(0, 2));
        check.same("4 minutes ahead", x.attend(0, 0), 2);
        x.set(3, 6);
        check.same("attend", x.attend(2, 0), 1);
        check.refused("5 minutes behind are too few", x, Check.STATE, () -> x.attend(2, 2));
        check.refused("5 minutes ahead are too few", x, Check.STATE, () -> x.attend(2, 3));
    }

    private void vote() {
        check.at("promise 10");
        ReelScreens x = new ReelScreens();
        x.film(1, 10);
        x.film(1, 10);
        x.show(0, 0, 0, 0);
        x.attend(1, 0);
        check.same("vote", x.vote(1, 0, 10), 0);
        check.same("vote", x.vote(1, 0, 4), 10);
        check.refused("not seen", x, Check.STATE, () -> x.vote(0, 0, 1));
        check.refused("another film", x, Check.STATE, () -> x.vote(1, 1, 1));
        check.refused("not seen, wrong points", x, Check.ARGUMENT, () -> x.vote(0, 0, 11));
        check.refused("points -1", x, Check.ARGUMENT, () -> x.vote(1, 0, -1));
        check.refused("points 11", x, Check.ARGUMENT, () -> x.vote(1, 0, 11));
        check.refused("juror -1", x, Check.INDEX, () -> x.vote(-1, 0, 11));
        check.refused("juror 3", x, Check.INDEX, () -> x.vote(3, 0, 0));
        check.refused("film -1", x, Check.INDEX, () -> x.vote(1, -1, 0));
        check.refused("film 2", x, Check.INDEX, () -> x.vote(1, 2, -1));
        check.same("points", x.juror(1, 2), 4);
        x.undo();
        check.same("points", x.juror(1, 2), 10);
        x.callOff(0);
        check.same("not seen any more", x.juror(1, 2), 0);
        check.refused("not seen any more", x, Check.STATE, () -> x.vote(1, 0, 1));
        x.show(0, 0, 500, 0);
        x.attend(1, 0);
        check.same("points stay", x.filmOf(0, 5), 10);
        check.same("previous points", x.vote(1, 0, 0), 10);
    }

    private void guestOf() {
        check.at("promise 24");
        ReelScreens x = new ReelScreens();
        x.film(1, 10);
        x.film(1, 10);
        x.show(0, 0, 140, 0);
        x.show(0, 0, 90, 0);
        x.show(1, 1, 90, 0);
        x.guest(0, 100, 110);
        x.guest(0, 101, 160);
        x.guest(0, 101, 159);
        x.guest(0, 0, 2000);
        x.guest(0, 150, 160);
        x.guest(1, 0, 109);
        int[] greeted = {1, 0, -1, 1, 0, -1};
        for (int guest = 0; guest < 6; guest++) {
            check.same("guest " + guest, x.guestOf(guest, 3), greeted[guest]);
        }
        check.same("film", x.guestOf(5, 0), 1);
        check.same("come", x.guestOf(1, 1), 101);
        check.same("leave", x.guestOf(1, 2), 160);
        check.same("greeters", x.count(3), 4);
        check.refused("guest -1", x, Check.INDEX, () -> x.guestOf(-1, 0));
        check.refused("guest 6 with a wrong what", x, Check.INDEX, () -> x.guestOf(6, 4));
        check.refused("what -1", x, Check.ARGUMENT, () -> x.guestOf(0, -1));
        check.refused("what 4", x, Check.ARGUMENT, () -> x.guestOf(0, 4));
        x.set(2, 9);
        check.same("less minutes for greeting", x.guestOf(2, 3), 0);
        check.same("less minutes for greeting", x.guestOf(5, 3), 2);
        equalEnds();
    }

    private void equalEnds() {
        ReelScreens x = new ReelScreens();
        x.film(1, 10);
        x.show(0, 0, 100, 20);
        x.show(0, 1, 120, 0);
        x.guest(0, 0, 2000);
        check.same("the same end", x.showing(0, 3), x.showing(1, 3));
        check.same("of several the lowest", x.guestOf(0, 3), 0);
        ReelScreens y = new ReelScreens();
        y.film(1, 10);
        y.show(0, 1, 120, 0);
        y.show(0, 0, 100, 20);
        y.guest(0, 0, 2000);
        check.same("of several the lowest", y.guestOf(0, 3), 0);
    }

    private void juror() {
        check.at("promise 25");
        ReelScreens x = new ReelScreens();
        x.film(1, 10);
        x.film(1, 10);
        x.film(1, 10);
        x.show(2, 0, 0, 0);
        x.show(2, 0, 100, 0);
        x.show(0, 0, 200, 0);
        x.show(1, 0, 300, 0);
        check.same("no showings", x.juror(2, 0), 0);
        x.attend(2, 0);
        x.attend(2, 1);
        x.attend(2, 2);
        x.vote(2, 2, 7);
        x.vote(2, 0, 2);
        check.same("showings", x.juror(2, 0), 3);
        check.same("films", x.juror(2, 1), 5);
        check.same("points", x.juror(2, 2), 9);
        check.same("another", x.juror(1, 1), 0);
        check.refused("juror -1", x, Check.INDEX, () -> x.juror(-1, 0));
        check.refused("juror 3 with a wrong what", x, Check.INDEX, () -> x.juror(3, 3));
        check.refused("what -1", x, Check.ARGUMENT, () -> x.juror(0, -1));
        check.refused("what 3", x, Check.ARGUMENT, () -> x.juror(0, 3));
        x.callOff(0);
        check.same("still seen", x.juror(2, 1), 5);
        x.callOff(0);
        check.same("not seen", x.juror(2, 1), 1);
        check.same("points of seen films", x.juror(2, 2), 2);
    }

    private void prize() {
        check.at("promise 26, the prize");
        ReelScreens x = new ReelScreens();
        x.film(1, 10);
        x.film(1, 10);
        x.film(1, 10);
        x.show(0, 0, 0, 0);
        x.show(1, 0, 100, 0);
        x.show(2, 0, 200, 0);
        x.attend(0, 0);
        x.vote(0, 0, 10);
        check.same("one juror is too few", x.count(6), -1);
        x.attend(1, 0);
        check.same("two jurors are enough", x.count(6), 0);
        x.undo();
        x.attend(0, 1);
        x.attend(1, 1);
        check.same("no points", x.count(6), 1);
        x.attend(1, 2);
        x.attend(2, 2);
        check.same("of several the lowest", x.count(6), 1);
        x.vote(2, 2, 3);
        check.same("the most points", x.count(6), 2);
        x.vote(0, 1, 2);
        x.vote(1, 1, 1);
        check.same("the points of all", x.count(6), 1);
        x.callOff(1);
        check.same("the showing is gone", x.count(6), 2);
        x.callOff(1);
        check.same("both are gone", x.count(6), -1);
    }
}
