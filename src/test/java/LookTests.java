/** Promises 19 to 23, 26 and 27 to 31: looks, and what would be. */
final class LookTests {
    private final Check check;

    LookTests(Check check) {
        this.check = check;
    }

    void run() {
        filmOf();
        showing();
        reel();
        runs();
        screen();
        screenOfLast();
        count();
        whyNot();
        whyNotTheLowest();
        nextStart();
        nextStartBetween();
        bestScreen();
        ifShown();
        use();
        nothingIsChanged();
    }

    private void filmOf() {
        check.at("promise 19");
        ReelScreens x = new ReelScreens();
        x.film(3, 12);
        x.film(1, 10);
        x.show(0, 0, 0, 0);
        x.show(0, 2, 200, 0);
        x.show(0, 2, 400, 0);
        x.show(1, 1, 0, 0);
        x.attend(0, 0);
        x.attend(2, 1);
        x.attend(2, 2);
        x.attend(1, 3);
        x.vote(0, 0, 3);
        x.vote(2, 0, 10);
        x.vote(1, 1, 9);
        int[][] films = {{3, 12, 3, 700, 5, 13}, {1, 10, 1, 200, 2, 9}};
        for (int film = 0; film < 2; film++) {
            for (int what = 0; what <= 5; what++) {
                check.same("filmOf(" + film + ", " + what + ")", x.filmOf(film, what), films[film][what]);
            }
        }
        x.seats(2, 50);
        check.same("seats", x.filmOf(0, 3), 200);
        check.refused("film -1", x, Check.INDEX, () -> x.filmOf(-1, 0));
        check.refused("film 2 with a wrong what", x, Check.INDEX, () -> x.filmOf(2, 6));
        check.refused("what -1", x, Check.ARGUMENT, () -> x.filmOf(0, -1));
        check.refused("what 6", x, Check.ARGUMENT, () -> x.filmOf(0, 6));
    }

    private void showing() {
        check.at("promise 20");
        ReelScreens x = new ReelScreens();
        x.film(1, 10);
        x.film(5, 11);
        x.show(1, 2, 300, 7);
        x.attend(0, 0);
        x.attend(2, 0);
        int[] numbers = {1, 2, 300, 362, 7, 5};
        for (int what = 0; what <= 5; what++) {
            check.same("showing(0, " + what + ")", x.showing(0, what), numbers[what]);
        }
        check.refused("showing -1", x, Check.INDEX, () -> x.showing(-1, 0));
        check.refused("showing 1 with a wrong what", x, Check.INDEX, () -> x.showing(1, 6));
        check.refused("what -1", x, Check.ARGUMENT, () -> x.showing(0, -1));
        check.refused("what 6", x, Check.ARGUMENT, () -> x.showing(0, 6));
    }

    private void reel() {
        check.at("promise 21");
        int[][] begins = {{500, -1, -1, -1, -1, -1}, {500, 517, -1, -1, -1, -1}, {500, 510, 527, -1, -1, -1},
            {500, 510, 527, 537, -1, -1}, {500, 510, 520, 537, 547, -1}, {500, 510, 520, 537, 547, 557}};
        for (int reels = 1; reels <= 6; reels++) {
            ReelScreens x = new ReelScreens();
            x.film(reels, 10);
            x.show(0, 0, 500, 7);
            for (int reel = 0; reel < 6; reel++) {
                check.same(reels + " reels, " + reel, x.reel(0, reel), begins[reels - 1][reel]);
            }
            check.same("end", x.showing(0, 3), 507 + 10 * reels);
            check.refused("showing -1", x, Check.INDEX, () -> x.reel(-1, 0));
            check.refused("showing 1 with a wrong reel", x, Check.INDEX, () -> x.reel(1, 6));
            check.refused("reel -1", x, Check.ARGUMENT, () -> x.reel(0, -1));
            check.refused("reel 6", x, Check.ARGUMENT, () -> x.reel(0, 6));
        }
    }

    private void runs() {
        check.at("promise 22");
        ReelScreens x = new ReelScreens();
        x.film(1, 10);
        x.film(3, 10);
        x.show(1, 1, 0, 5);
        x.show(0, 1, 1970, 20);
        int[] minutes = {0, 9, 10, 19, 20, 24, 25, 34, 35, 1969, 1970, 1979, 1980, 1999};
        int[] answers = {6, 6, 7, 7, -1, -1, 8, 8, -1, -1, 0, 0, -1, -1};
        for (int i = 0; i < minutes.length; i++) {
            check.same("runs(1, " + minutes[i] + ")", x.runs(1, minutes[i]), answers[i]);
            check.same("runs(0, " + minutes[i] + ")", x.runs(0, minutes[i]), -1);
        }
        check.refused("screen -1", x, Check.INDEX, () -> x.runs(-1, 0));
        check.refused("screen 3 at a wrong minute", x, Check.INDEX, () -> x.runs(3, -1));
        check.refused("minute -1", x, Check.ARGUMENT, () -> x.runs(0, -1));
        check.refused("minute 2000", x, Check.ARGUMENT, () -> x.runs(0, 2000));
    }

    private void screen() {
        check.at("promise 23");
        ReelScreens x = new ReelScreens();
        x.film(1, 10);
        x.film(4, 20);
        x.show(1, 2, 500, 20);
        x.show(0, 2, 900, 3);
        x.show(0, 2, 100, 20);
        x.show(0, 0, 1500, 0);
        int[][] screens = {{100, 1, 10, 10, 1510}, {200, 0, 0, 0, -1}, {300, 3, 100, 100, 913}};
        for (int screen = 0; screen < 3; screen++) {
            for (int what = 0; what <= 4; what++) {
                check.same("screen(" + screen + ", " + what + ")", x.screen(screen, what), screens[screen][what]);
            }
        }
        check.refused("screen -1", x, Check.INDEX, () -> x.screen(-1, 0));
        check.refused("screen 3 with a wrong what", x, Check.INDEX, () -> x.screen(3, 5));
        check.refused("what -1", x, Check.ARGUMENT, () -> x.screen(0, -1));
        check.refused("what 5", x, Check.ARGUMENT, () -> x.screen(0, 5));
    }

    private void screenOfLast() {
        ReelScreens x = new ReelScreens();
        x.film(1, 10);
        x.show(0, 1, 1500, 0);
        x.show(0, 1, 1000, 20);
        x.show(0, 1, 100, 0);
        check.same("the last one is not the latest made", x.screen(1, 4), 1510);
        x.callOff(0);
        check.same("the end has the break", x.screen(1, 4), 1030);
    }

    private void count() {
        check.at("promise 26");
        ReelScreens x = new ReelScreens();
        x.film(1, 10);
        x.film(1, 10);
        x.film(1, 10);
        x.show(2, 0, 0, 0);
        x.show(2, 2, 100, 0);
        x.show(1, 0, 200, 0);
        x.callOff(2);
        x.guest(2, 0, 2000);
        x.guest(2, 100, 2000);
        x.guest(1, 0, 2000);
        x.attend(0, 0);
        x.attend(1, 1);
        for (int setting = 0; setting < 4; setting++) {
            x.set(setting, 6 + setting);
        }
        int[] counts = {3, 2, 3, 2, 400, 1, 2, 6, 7, 8, 9, 6};
        for (int what = 0; what <= 11; what++) {
            check.same("count(" + what + ")", x.count(what), counts[what]);
        }
        check.refused("what -1", x, Check.ARGUMENT, () -> x.count(-1));
        check.refused("what 12", x, Check.ARGUMENT, () -> x.count(12));
    }

    private void whyNot() {
        check.at("promise 27");
        ReelScreens x = new ReelScreens();
        x.film(4, 10);
        x.film(1, 10);
        x.show(1, 0, 0, 0);
        x.show(0, 1, 100, 10);
        same(x, new int[] {0, 0, 1961, 0}, 2, -1, -1);
        same(x, new int[] {0, 0, 1960, 0}, 0, -1, -1);
        same(x, new int[] {0, 0, 1960, 1}, 2, -1, -1);
        same(x, new int[] {0, 0, 24, 0}, 3, 0, -1);
        same(x, new int[] {0, 0, 25, 0}, 0, -1, -1);
        same(x, new int[] {0, 0, 90, 20}, 4, 1, 0);
        same(x, new int[] {0, 0, 80, 0}, 0, -1, -1);
        same(x, new int[] {0, 0, 80, 10}, 0, -1, -1);
        same(x, new int[] {0, 0, 80, 11}, 4, 1, 2);
        same(x, new int[] {0, 0, 100, 10}, 4, 1, 0);
        same(x, new int[] {0, 0, 120, 0}, 4, 1, 2);
        same(x, new int[] {0, 1, 100, 10}, 3, 1, -1);
        check.refused("film -1", x, Check.INDEX, () -> x.whyNot(-1, 0, 0, 0, 0));
        check.refused("film 2, all wrong", x, Check.INDEX, () -> x.whyNot(2, 0, -1, -1, -1));
        check.refused("screen -1", x, Check.INDEX, () -> x.whyNot(0, -1, 0, 0, 0));
        check.refused("screen 3, all wrong", x, Check.INDEX, () -> x.whyNot(0, 3, 2000, 21, 3));
        check.refused("start -1", x, Check.ARGUMENT, () -> x.whyNot(0, 0, -1, 0, 0));
        check.refused("start 2000", x, Check.ARGUMENT, () -> x.whyNot(0, 0, 2000, 0, 0));
        check.refused("pause -1", x, Check.ARGUMENT, () -> x.whyNot(0, 0, 0, -1, 0));
        check.refused("pause 21", x, Check.ARGUMENT, () -> x.whyNot(0, 0, 0, 21, 0));
        check.refused("what -1", x, Check.ARGUMENT, () -> x.whyNot(0, 0, 0, 0, -1));
        check.refused("what 3", x, Check.ARGUMENT, () -> x.whyNot(0, 0, 0, 0, 3));
        check.same("whyNot is no showing", x.count(1), 2);
    }

    private void same(ReelScreens x, int[] plan, int reason, int inWay, int reel) {
        int[] due = {reason, inWay, reel};
        for (int what = 0; what <= 2; what++) {
            check.same("whyNot(" + plan[0] + ", " + plan[1] + ", " + plan[2] + ", " + plan[3] + ", " + what + ")",
                    x.whyNot(plan[0], plan[1], plan[2], plan[3], what), due[what]);
        }
    }

    private void whyNotTheLowest() {
        check.at("promise 27, the lowest");
        ReelScreens x = new ReelScreens();
        x.film(6, 10);
        x.film(1, 10);
        x.show(1, 0, 140, 0);
        x.show(1, 0, 100, 0);
        same(x, new int[] {0, 0, 90, 0}, 3, 0, -1);
        same(x, new int[] {1, 0, 120, 0}, 3, 0, -1);
        same(x, new int[] {1, 0, 115, 0}, 3, 1, -1);
        same(x, new int[] {1, 0, 115, 1}, 3, 0, -1);
        same(x, new int[] {1, 0, 75, 1}, 3, 1, -1);
        same(x, new int[] {1, 0, 75, 0}, 0, -1, -1);
        x.set(1, 0);
        same(x, new int[] {1, 0, 105, 0}, 3, 1, -1);
        ReelScreens y = new ReelScreens();
        y.film(6, 10);
        y.show(0, 1, 200, 0);
        y.show(0, 2, 160, 20);
        // The showing 1 holds the reels 0 to 2 too near, the showing 0 the reels 3 to 5.
        same(y, new int[] {0, 0, 170, 15}, 4, 0, 3);
        y.callOff(0);
        same(y, new int[] {0, 0, 170, 15}, 4, 0, 0);
    }

    private void nextStart() {
        check.at("promise 28");
        ReelScreens x = new ReelScreens();
        x.film(2, 10);
        x.film(1, 10);
        check.same("free", x.nextStart(0, 0, 0), 0);
        check.same("free", x.nextStart(0, 0, 1980), 1980);
        check.same("too late", x.nextStart(0, 0, 1981), -1);
        check.same("too late", x.nextStart(1, 0, 1999), -1);
        x.show(0, 0, 20, 5);
        // It ends at 45; the other screens wait for the reels, which begin at 20 and 35.
        check.same("turnaround", x.nextStart(0, 0, 0), 60);
        check.same("behind it", x.nextStart(0, 0, 61), 61);
        check.same("a shorter film", x.nextStart(1, 1, 0), 0);
        check.same("reels", x.nextStart(0, 1, 0), 0);
        check.same("reels", x.nextStart(0, 1, 1), 45);
        nextStartByReels();
        check.same("nothing is changed", x.count(1) + x.count(11), 4);
        x.show(1, 0, 1980, 0);
        check.same("none is free", x.nextStart(1, 0, 1956), -1);
        check.same("one is free", x.nextStart(1, 0, 1955), 1955);
        check.refused("film -1", x, Check.INDEX, () -> x.nextStart(-1, 0, 0));
        check.refused("film 2 at a wrong minute", x, Check.INDEX, () -> x.nextStart(2, 0, -1));
        check.refused("screen -1", x, Check.INDEX, () -> x.nextStart(0, -1, 0));
        check.refused("screen 3 at a wrong minute", x, Check.INDEX, () -> x.nextStart(0, 3, 2000));
        check.refused("from -1", x, Check.ARGUMENT, () -> x.nextStart(0, 0, -1));
        check.refused("from 2000", x, Check.ARGUMENT, () -> x.nextStart(0, 0, 2000));
    }

    private void nextStartByReels() {
        ReelScreens x = new ReelScreens();
        x.film(2, 10);
        x.show(0, 0, 100, 0);
        check.same("just ahead", x.nextStart(0, 1, 80), 80);
        check.same("behind both reels", x.nextStart(0, 1, 81), 120);
        x.set(0, 60);
        check.same("just ahead", x.nextStart(0, 1, 30), 30);
        check.same("behind both reels", x.nextStart(0, 1, 31), 170);
        ReelScreens y = new ReelScreens();
        y.film(2, 10);
        y.set(0, 0);
        y.show(0, 0, 100, 20);
        check.same("between its reels", y.nextStart(0, 1, 91), 110);
        check.same("between its reels", y.nextStart(0, 1, 109), 110);
        check.same("the second reel is free", y.nextStart(0, 1, 110), 110);
        check.same("the second reel is not", y.nextStart(0, 1, 111), 130);
        check.same("the last minute of the second reel", y.nextStart(0, 1, 129), 130);
    }

    private void nextStartBetween() {
        check.at("promise 28, between showings");
        ReelScreens x = new ReelScreens();
        x.film(3, 25);
        x.film(1, 10);
        x.show(1, 0, 90, 0);
        x.show(1, 0, 205, 0);
        x.show(1, 0, 319, 0);
        x.show(0, 1, 115, 0);
        check.same("the gap is wide enough, but the reels run", x.nextStart(0, 0, 0), 0);
        check.same("behind both", x.nextStart(0, 0, 1), 344);
        x.callOff(3);
        check.same("the gap is just wide enough", x.nextStart(0, 0, 1), 115);
        check.same("the next gap is a minute short", x.nextStart(0, 0, 116), 344);
        for (int i = 3; i < 12; i++) {
            x.show(1, 2, 1000 + 50 * i, 0);
        }
        check.same("there are 12", x.nextStart(0, 1, 0), -1);
    }

    private void bestScreen() {
        check.at("promise 29");
        ReelScreens x = new ReelScreens();
        x.film(1, 10);
        x.film(1, 10);
        check.same("the most seats", x.bestScreen(0, 0), 2);
        x.seats(1, 300);
        check.same("of several the lowest", x.bestScreen(0, 0), 1);
        x.seats(0, 300);
        check.same("of several the lowest", x.bestScreen(0, 0), 0);
        x.show(0, 0, 100, 0);
        check.same("the earliest", x.bestScreen(1, 100), 1);
        x.show(0, 1, 1000, 0);
        x.show(0, 2, 500, 0);
        check.same("the earliest, ahead of seats", x.bestScreen(1, 1000), 0);
        x.seats(0, 50);
        check.same("the same start, the most seats", x.bestScreen(0, 500), 1);
        x.show(1, 2, 1000, 0);
        check.same("the earliest, ahead of seats", x.bestScreen(1, 1000), 0);
        check.same("none", x.bestScreen(0, 1991), -1);
        check.same("the last start", x.bestScreen(0, 1990), 1);
        check.refused("film -1", x, Check.INDEX, () -> x.bestScreen(-1, 0));
        check.refused("film 2 at a wrong minute", x, Check.INDEX, () -> x.bestScreen(2, 2000));
        check.refused("from -1", x, Check.ARGUMENT, () -> x.bestScreen(0, -1));
        check.refused("from 2000", x, Check.ARGUMENT, () -> x.bestScreen(0, 2000));
    }

    private void ifShown() {
        check.at("promise 30");
        ReelScreens x = new ReelScreens();
        x.film(1, 10);
        x.film(1, 10);
        x.guest(0, 100, 200);
        x.guest(0, 110, 120);
        x.guest(0, 111, 300);
        x.guest(1, 0, 2000);
        x.guest(0, 0, 119);
        check.same("two would greet", x.ifShown(0, 0, 100), 2);
        check.same("a minute later", x.ifShown(0, 0, 101), 2);
        check.same("a minute earlier", x.ifShown(0, 0, 99), 2);
        check.same("the other film", x.ifShown(1, 0, 100), 1);
        check.same("too late for all but one", x.ifShown(0, 0, 280), 1);
        check.same("too late for all", x.ifShown(0, 0, 281), 0);
        x.show(0, 1, 100, 0);
        check.same("who greets already does not count", x.ifShown(0, 1, 125), 1);
        check.same("refused by the screen", x.ifShown(0, 1, 105), -1);
        check.same("refused by the reel", x.ifShown(0, 0, 105), -1);
        check.same("too late", x.ifShown(0, 0, 1991), -1);
        check.same("just not too late", x.ifShown(0, 0, 1990), 0);
        check.refused("film -1", x, Check.INDEX, () -> x.ifShown(-1, 0, 0));
        check.refused("film 2 at a wrong start", x, Check.INDEX, () -> x.ifShown(2, 0, -1));
        check.refused("screen -1", x, Check.INDEX, () -> x.ifShown(0, -1, 0));
        check.refused("screen 3 at a wrong start", x, Check.INDEX, () -> x.ifShown(0, 3, 2000));
        check.refused("start -1", x, Check.ARGUMENT, () -> x.ifShown(0, 0, -1));
        check.refused("start 2000", x, Check.ARGUMENT, () -> x.ifShown(0, 0, 2000));
    }

    private void use() {
        check.at("promise 31");
        ReelScreens x = new ReelScreens();
        x.film(6, 25);
        x.film(3, 11);
        check.holds("unused", x.use(0) == 0.0);
        x.show(0, 1, 0, 20);
        check.holds("150 minutes", x.use(1) == 0.075);
        x.show(1, 1, 500, 20);
        check.holds("183 minutes", x.use(1) == 183 / 2000.0);
        check.holds("another screen", x.use(2) == 0.0);
        check.refused("screen -1", x, Check.INDEX, () -> (long) x.use(-1));
        check.refused("screen 3", x, Check.INDEX, () -> (long) x.use(3));
    }

    private void nothingIsChanged() {
        check.at("promises 19 to 32, nothing is changed");
        ReelScreens x = new ReelScreens();
        x.film(2, 10);
        x.show(0, 0, 100, 5);
        x.guest(0, 0, 2000);
        x.attend(0, 0);
        PlanTests.write(x, "0/1@200");
        long before = x.digest();
        x.filmOf(0, 3);
        x.showing(0, 3);
        x.reel(0, 1);
        x.runs(0, 100);
        x.screen(0, 3);
        x.guestOf(0, 3);
        x.juror(0, 1);
        x.count(6);
        x.whyNot(0, 0, 100, 0, 2);
        x.nextStart(0, 0, 100);
        x.bestScreen(0, 100);
        x.ifShown(0, 1, 500);
        x.use(0);
        x.firstError();
        x.stopped(0);
        check.same("digest", x.digest(), before);
    }
}
