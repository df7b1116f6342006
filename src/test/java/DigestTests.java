/** Promise 32: the digest, against the list of values that the document names, asked of the face. */
final class DigestTests {
    private final Check check;
    private long hash;

    DigestTests(Check check) {
        this.check = check;
    }

    void run() {
        check.at("promise 32");
        ReelScreens x = new ReelScreens();
        check.same("a new object", x.digest(), digestOf(x, ""));
        x.film(5, 21);
        x.film(1, 10);
        x.show(0, 0, 50, 11);
        x.show(1, 0, 300, 0);
        x.show(0, 2, 600, 0);
        x.guest(0, 100, 300);
        x.guest(1, 0, 20);
        x.attend(0, 0);
        x.attend(1, 2);
        x.vote(0, 0, 7);
        x.vote(1, 0, 9);
        PlanTests.write(x, "1/1@900;0/0@610");
        x.program();
        PlanTests.write(x, "0/z~!");
        check.same("a full object", x.digest(), digestOf(x, "0/z~!"));
        check.same("again", x.digest(), digestOf(x, "0/z~!"));
        x.callOff(0);
        check.same("called off", x.digest(), digestOf(x, "0/z~!"));
        fromZero();
        shares();
    }

    /** A start at 0 leaves room on the screen 2, a start at 1 does not. */
    private void fromZero() {
        ReelScreens x = new ReelScreens();
        x.film(1, 10);
        x.film(1, 10);
        x.show(0, 2, 25, 0);
        check.same("from 0", x.bestScreen(1, 0), 2);
        check.same("from 1", x.bestScreen(1, 1), 1);
        check.same("from 0", x.digest(), digestOf(x, ""));
    }

    /** The bits of many shares: each use from one film to a screen that is full. */
    private void shares() {
        for (int minutes = 10; minutes <= 25; minutes++) {
            ReelScreens x = new ReelScreens();
            x.set(1, 0);
            x.set(0, 0);
            for (int reels = 1; reels <= 6; reels++) {
                x.film(reels, minutes);
            }
            for (int i = 0; i < 12; i++) {
                x.show(5 - i % 6, 0, 150 * i, 0);
                check.same("share", x.digest(), digestOf(x, ""));
            }
        }
    }

    private void add(long value) {
        hash = 31 * hash + value;
    }

    private long digestOf(ReelScreens x, String buffer) {
        hash = 3727;
        for (int what = 0; what <= 11; what++) {
            add(x.count(what));
        }
        for (int film = 0; film < x.count(0); film++) {
            for (int what = 0; what <= 5; what++) {
                add(x.filmOf(film, what));
            }
            for (int screen = 0; screen < 3; screen++) {
                add(x.nextStart(film, screen, 0));
            }
            add(x.bestScreen(film, 0));
        }
        for (int showing = 0; showing < x.count(1); showing++) {
            for (int what = 0; what <= 5; what++) {
                add(x.showing(showing, what));
            }
            for (int reel = 0; reel <= 5; reel++) {
                add(x.reel(showing, reel));
            }
        }
        for (int screen = 0; screen < 3; screen++) {
            for (int what = 0; what <= 4; what++) {
                add(x.screen(screen, what));
            }
            for (int minute = 0; minute <= 1900; minute += 100) {
                add(x.runs(screen, minute));
            }
            add(Double.doubleToLongBits(x.use(screen)));
        }
        addPeople(x);
        for (int what = 0; what <= 2; what++) {
            add(x.stopped(what));
        }
        add(buffer.length());
        for (int i = 0; i < buffer.length(); i++) {
            add(buffer.charAt(i));
        }
        return hash;
    }

    private void addPeople(ReelScreens x) {
        for (int guest = 0; guest < x.count(2); guest++) {
            for (int what = 0; what <= 3; what++) {
                add(x.guestOf(guest, what));
            }
        }
        for (int juror = 0; juror < 3; juror++) {
            for (int what = 0; what <= 2; what++) {
                add(x.juror(juror, what));
            }
        }
    }
}
