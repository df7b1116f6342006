/** Promises 1 to 7: a new object, films, screens, settings and showings. */
final class PlanTests {
    private final Check check;

    PlanTests(Check check) {
        this.check = check;
    }

    void run() {
        newObject();
        film();
        seats();
        set();
        showByScreen();
        showByReel();
        showInOrderOfReasons();
        showRefusesWrongInputs();
        callOff();
        move();
        moveAndJurors();
    }

    static void write(ReelScreens x, String text) {
        for (int i = 0; i < text.length(); i++) {
            x.append(text.charAt(i));
        }
    }

    private void newObject() {
        check.at("promise 1");
        ReelScreens x = new ReelScreens();
        int[] counts = {0, 0, 0, 0, 0, 0, -1, 10, 15, 10, 5, 0};
        for (int what = 0; what < counts.length; what++) {
            check.same("count(" + what + ")", x.count(what), counts[what]);
        }
        for (int screen = 0; screen < 3; screen++) {
            check.same("seats", x.screen(screen, 0), 100 * (screen + 1));
            check.same("showings", x.screen(screen, 1), 0);
            check.same("end", x.screen(screen, 4), -1);
        }
        for (int what = 0; what < 3; what++) {
            check.same("stopped", x.stopped(what), -1);
            check.same("juror", x.juror(what, 0), 0);
        }
        check.same("clearBuffer", x.clearBuffer(), 0);
        check.refused("restore", x, Check.STATE, x::restore);
        check.refused("undo", x, Check.STATE, x::undo);
        check.refused("filmOf", x, Check.INDEX, () -> x.filmOf(0, 0));
    }

    private void film() {
        check.at("promise 2");
        ReelScreens x = new ReelScreens();
        check.same("film", x.film(1, 10), 0);
        check.same("film", x.film(6, 25), 1);
        check.same("reels", x.filmOf(1, 0), 6);
        check.same("minutes", x.filmOf(1, 1), 25);
        check.refused("reels 0", x, Check.ARGUMENT, () -> x.film(0, 10));
        check.refused("reels 7", x, Check.ARGUMENT, () -> x.film(7, 10));
        check.refused("minutes 9", x, Check.ARGUMENT, () -> x.film(1, 9));
        check.refused("minutes 26", x, Check.ARGUMENT, () -> x.film(1, 26));
        for (int film = 2; film < 8; film++) {
            check.same("film", x.film(2, 11), film);
        }
        check.refused("a ninth film", x, Check.STATE, () -> x.film(1, 10));
        check.refused("a ninth film of no reels", x, Check.ARGUMENT, () -> x.film(0, 10));
        check.same("count", x.count(0), 8);
        check.same("undo", x.undo(), 5);
        check.same("count", x.count(0), 7);
        check.refused("no film 7", x, Check.INDEX, () -> x.filmOf(7, 0));
    }

    private void seats() {
        check.at("promise 3");
        ReelScreens x = new ReelScreens();
        check.same("seats", x.seats(0, 50), 100);
        check.same("seats", x.seats(0, 400), 50);
        check.same("seats", x.seats(2, 51), 300);
        check.same("screen", x.screen(0, 0), 400);
        check.same("screen", x.screen(1, 0), 200);
        check.same("screen", x.screen(2, 0), 51);
        check.refused("screen -1", x, Check.INDEX, () -> x.seats(-1, 50));
        check.refused("screen 3 with wrong seats", x, Check.INDEX, () -> x.seats(3, 0));
        check.refused("seats 49", x, Check.ARGUMENT, () -> x.seats(0, 49));
        check.refused("seats 401", x, Check.ARGUMENT, () -> x.seats(0, 401));
        check.same("undo", x.undo(), 2);
        check.same("screen", x.screen(2, 0), 300);
    }

    private void set() {
        check.at("promise 4");
        ReelScreens x = new ReelScreens();
        int[] first = {10, 15, 10, 5};
        for (int setting = 0; setting < 4; setting++) {
            check.same("set", x.set(setting, 60), first[setting]);
            check.same("set", x.set(setting, 0), 60);
            check.same("set", x.set(setting, 20 + setting), 0);
        }
        for (int setting = 0; setting < 4; setting++) {
            check.same("count", x.count(7 + setting), 20 + setting);
        }
        check.refused("setting -1", x, Check.INDEX, () -> x.set(-1, 0));
        check.refused("setting 4 with a wrong value", x, Check.INDEX, () -> x.set(4, 61));
        check.refused("value -1", x, Check.ARGUMENT, () -> x.set(0, -1));
        check.refused("value 61", x, Check.ARGUMENT, () -> x.set(3, 61));
        check.same("undo", x.undo(), 5);
        check.same("count", x.count(10), 0);
        settingsLeaveShowings();
    }

    private void settingsLeaveShowings() {
        ReelScreens x = new ReelScreens();
        x.film(1, 10);
        x.film(1, 10);
        x.set(1, 0);
        x.set(3, 0);
        x.show(0, 0, 0, 0);
        x.show(1, 0, 10, 0);
        x.attend(0, 0);
        x.attend(0, 1);
        x.set(1, 60);
        x.set(3, 60);
        check.same("showings stay", x.count(1), 2);
        check.same("visits stay", x.juror(0, 0), 2);
    }

    private void showByScreen() {
        check.at("promise 5, reason 3");
        ReelScreens x = new ReelScreens();
        x.film(2, 20);
        x.film(1, 10);
        check.same("show", x.show(0, 1, 500, 20), 0);
        // It runs from 500 to 560; 15 minutes have to be left on both sides.
        check.refused("too near ahead", x, Check.STATE, () -> x.show(1, 1, 476, 0));
        check.refused("too near ahead by the break", x, Check.STATE, () -> x.show(1, 1, 475, 1));
        check.refused("too near behind", x, Check.STATE, () -> x.show(1, 1, 574, 0));
        check.refused("in it", x, Check.STATE, () -> x.show(1, 1, 520, 0));
        check.same("just ahead", x.show(1, 1, 475, 0), 1);
        check.same("just behind", x.show(1, 1, 575, 0), 2);
        check.same("elsewhere", x.show(1, 0, 525, 0), 3);
        ReelScreens y = new ReelScreens();
        y.film(1, 10);
        y.film(3, 10);
        y.set(1, 0);
        y.show(0, 2, 100, 0);
        check.refused("the last minute", y, Check.STATE, () -> y.show(0, 2, 109, 0));
        check.refused("the first minute", y, Check.STATE, () -> y.show(0, 2, 91, 0));
        check.refused("around it", y, Check.STATE, () -> y.show(1, 2, 90, 0));
        check.same("touching behind", y.show(0, 2, 110, 0), 1);
        check.same("touching ahead", y.show(0, 2, 90, 0), 2);
    }

    private void showByReel() {
        check.at("promise 5, reason 4");
        ReelScreens x = new ReelScreens();
        x.film(3, 10);
        x.show(0, 0, 100, 5);
        // The reels begin at 100, 110 and, behind the break, 125; each needs 10 minutes on its way.
        check.same("reel 2", x.reel(0, 2), 125);
        check.refused("the last reel is late", x, Check.STATE, () -> x.show(0, 1, 124, 0));
        check.refused("just too early", x, Check.STATE, () -> x.show(0, 1, 119, 5));
        check.same("with the same break", x.whyNot(0, 1, 120, 5, 0), 0);
        check.same("just behind", x.show(0, 1, 125, 0), 1);
        check.same("ahead, reel 0", x.whyNot(0, 2, 80, 0, 0), 0);
        check.same("ahead, too late", x.whyNot(0, 2, 81, 0, 2), 0);
        check.same("ahead, with a break", x.whyNot(0, 2, 80, 6, 2), 2);
        ReelScreens y = new ReelScreens();
        y.film(1, 10);
        y.set(0, 0);
        y.set(1, 0);
        y.show(0, 0, 50, 0);
        check.same("no carrying: behind", y.whyNot(0, 1, 60, 0, 0), 0);
        check.same("no carrying: ahead", y.whyNot(0, 1, 40, 0, 0), 0);
        check.same("no carrying: last minute", y.whyNot(0, 1, 59, 0, 0), 4);
        check.same("no carrying: first minute", y.whyNot(0, 1, 41, 0, 0), 4);
        check.same("the same screen has no carrying", y.show(0, 0, 60, 0), 1);
    }

    private void showInOrderOfReasons() {
        check.at("promise 5, reasons");
        ReelScreens x = new ReelScreens();
        x.film(1, 10);
        x.set(1, 0);
        check.refused("ends at 2001", x, Check.STATE, () -> x.show(0, 0, 1991, 0));
        check.refused("ends at 2001 by the break", x, Check.STATE, () -> x.show(0, 0, 1971, 20));
        check.same("too late", x.whyNot(0, 0, 1991, 0, 0), 2);
        check.same("ends at 2000", x.show(0, 0, 1990, 0), 0);
        check.same("too late ahead of taken", x.whyNot(0, 0, 1991, 0, 0), 2);
        check.same("taken", x.whyNot(0, 0, 1990, 0, 0), 3);
        check.same("taken ahead of the reel", x.whyNot(0, 1, 1990, 0, 0), 4);
        for (int i = 1; i < 12; i++) {
            check.same("show", x.show(0, 0, 100 * i, 0), i);
        }
        check.refused("a thirteenth", x, Check.STATE, () -> x.show(0, 0, 50, 0));
        check.same("twelve", x.whyNot(0, 0, 1999, 0, 0), 1);
    }

    private void showRefusesWrongInputs() {
        check.at("promise 5, wrong inputs");
        ReelScreens x = new ReelScreens();
        x.film(6, 25);
        check.refused("film -1", x, Check.INDEX, () -> x.show(-1, 0, 0, 0));
        check.refused("film 1", x, Check.INDEX, () -> x.show(1, 0, -1, 0));
        check.refused("screen -1", x, Check.INDEX, () -> x.show(0, -1, 0, 21));
        check.refused("screen 3", x, Check.INDEX, () -> x.show(0, 3, 1999, 0));
        check.refused("start -1", x, Check.ARGUMENT, () -> x.show(0, 0, -1, 0));
        check.refused("start 2000", x, Check.ARGUMENT, () -> x.show(0, 0, 2000, 0));
        check.refused("pause -1", x, Check.ARGUMENT, () -> x.show(0, 0, 0, -1));
        check.refused("pause 21, also too late", x, Check.ARGUMENT, () -> x.show(0, 0, 1999, 21));
        check.same("show", x.show(0, 2, 0, 20), 0);
        int[] numbers = {0, 2, 0, 170, 20, 0};
        for (int what = 0; what < numbers.length; what++) {
            check.same("showing(" + what + ")", x.showing(0, what), numbers[what]);
        }
        check.same("undo", x.undo(), 1);
        check.same("gone", x.count(1), 0);
    }

    private void callOff() {
        check.at("promise 6");
        ReelScreens x = new ReelScreens();
        x.film(1, 10);
        x.film(2, 10);
        x.show(0, 0, 100, 0);
        x.show(1, 1, 200, 3);
        x.show(0, 2, 300, 0);
        x.attend(0, 0);
        x.attend(2, 0);
        x.attend(1, 1);
        x.attend(1, 2);
        check.refused("showing -1", x, Check.INDEX, () -> x.callOff(-1));
        check.refused("showing 3", x, Check.INDEX, () -> x.callOff(3));
        check.same("callOff", x.callOff(0), 2);
        check.same("called off", x.count(5), 1);
        check.same("showings", x.count(1), 2);
        int[] moved = {1, 1, 200, 223, 3, 2};
        for (int what = 0; what < moved.length; what++) {
            check.same("showing 0, " + what, x.showing(0, what), moved[what]);
        }
        check.same("showing 1", x.showing(1, 2), 300);
        check.same("nobody goes", x.juror(0, 0), 0);
        check.same("not seen any more", x.filmOf(0, 4), 2);
        check.same("callOff of the last", x.callOff(1), 1);
        check.same("called off", x.count(5), 2);
        check.same("undo", x.undo(), 5);
        check.same("undo", x.undo(), 4);
        check.same("called off", x.count(5), 0);
        check.same("goers are back", x.showing(0, 5), 5);
        ReelScreens y = new ReelScreens();
        y.film(1, 10);
        y.show(0, 0, 0, 0);
        check.same("nobody went", y.callOff(0), 0);
        check.same("a number is used again", y.show(0, 1, 0, 0), 0);
        check.same("no goer is left over", y.showing(0, 5), 0);
    }

    private void move() {
        check.at("promise 7");
        ReelScreens x = new ReelScreens();
        x.film(2, 10);
        x.film(1, 10);
        x.show(0, 0, 100, 5);
        x.show(1, 0, 200, 0);
        x.show(0, 1, 300, 0);
        check.refused("showing -1", x, Check.INDEX, () -> x.move(-1, 0));
        check.refused("showing 3 at a wrong start", x, Check.INDEX, () -> x.move(3, -1));
        check.refused("start -1", x, Check.ARGUMENT, () -> x.move(0, -1));
        check.refused("start 2000", x, Check.ARGUMENT, () -> x.move(0, 2000));
        check.refused("too late", x, Check.STATE, () -> x.move(0, 1976));
        check.refused("turnaround", x, Check.STATE, () -> x.move(0, 161));
        check.refused("reel", x, Check.STATE, () -> x.move(0, 276));
        check.same("its own time is free", x.move(0, 105), 0);
        check.same("move", x.move(0, 160), 0);
        check.same("start", x.showing(0, 2), 160);
        check.same("end", x.showing(0, 3), 185);
        check.same("screen", x.showing(0, 1), 0);
        check.same("break", x.showing(0, 4), 5);
        check.same("move", x.move(0, 275), 0);
        check.same("move to the end", x.move(0, 1975), 0);
        check.same("number", x.showing(1, 2), 200);
        check.same("undo", x.undo(), 5);
        check.same("start", x.showing(0, 2), 275);
        ReelScreens full = new ReelScreens();
        full.film(1, 10);
        for (int i = 0; i < 12; i++) {
            full.show(0, 0, 100 * i, 0);
        }
        check.same("one of 12 moves", full.move(11, 50), 0);
    }

    private void moveAndJurors() {
        check.at("promise 7, jurors");
        ReelScreens x = new ReelScreens();
        x.film(1, 20);
        x.film(1, 10);
        x.film(1, 10);
        x.show(0, 0, 100, 0);
        x.show(1, 1, 200, 0);
        x.show(2, 2, 400, 0);
        for (int juror = 0; juror < 3; juror++) {
            x.attend(juror, 0);
        }
        x.attend(0, 1);
        x.attend(1, 1);
        x.attend(2, 2);
        check.same("5 minutes are left", x.move(0, 175), 0);
        check.same("4 minutes are left", x.move(0, 176), 2);
        check.same("goers", x.showing(0, 5), 4);
        check.same("goers of the other", x.showing(1, 5), 3);
        check.same("5 minutes behind", x.move(2, 201), 0);
        check.same("4 minutes behind", x.move(2, 200), 1);
        check.same("goers", x.showing(2, 5), 0);
        x.undo();
        x.undo();
        check.same("behind, just so", x.move(0, 415), 0);
        check.same("behind, too near", x.move(0, 414), 1);
        check.same("goers", x.showing(0, 5), 0);
        ReelScreens y = new ReelScreens();
        y.film(1, 10);
        y.film(1, 10);
        y.set(3, 0);
        y.show(0, 0, 0, 0);
        y.show(1, 1, 10, 0);
        y.attend(0, 0);
        y.attend(0, 1);
        y.set(3, 10);
        check.same("a greater setting tells at the move", y.move(0, 0), 1);
        check.same("the other stays", y.juror(0, 0), 1);
    }
}
