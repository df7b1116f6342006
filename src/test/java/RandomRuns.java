/** Runs of calls on ReelScreens and on PlainModel at once, chosen by a written row of numbers. */
final class RandomRuns {
    private final Check check;
    private long seed;
    private ReelScreens x;
    private PlainModel y;

    RandomRuns(Check check) {
        this.check = check;
    }

    void run() {
        for (int number = 0; number < 300; number++) {
            seed = 1000003L * number + 17;
            oneRun(number);
        }
    }

    private void oneRun(int number) {
        x = new ReelScreens();
        y = new PlainModel();
        int span = number % 3 == 0 ? 2000 : number % 3 == 1 ? 600 : 250;
        boolean isHungry = number % 5 != 0;
        for (int call = 0; call < 500; call++) {
            check.at("random run " + number + ", call " + call);
            if (call < 4) {
                int reels = below(6) + 1;
                int minutes = below(16) + 10;
                both("film", () -> x.film(reels, minutes), () -> y.film(reels, minutes));
            } else if (isHungry && below(4) == 0) {
                showSomething(span);
            } else {
                oneCall(below(31), span);
            }
            if (call % 25 == 0) {
                both("digest", () -> x.digest(), () -> y.digest());
            }
        }
        both("digest", () -> x.digest(), () -> y.digest());
    }

    private int below(int bound) {
        seed = seed * 6364136223846793005L + 1442695040888963407L;
        return (int) ((seed >>> 33) % bound);
    }

    /** A number from 0 on, seldom one that is out of range. */
    private int near(int bound) {
        int chance = below(40);
        return chance == 0 ? -1 : chance == 1 ? bound : below(bound);
    }

    private int time(int span) {
        int chance = below(30);
        return chance == 0 ? 1999 - below(40) : chance == 1 ? near(2000) : below(span);
    }

    private void both(String name, Check.Call one, Check.Call other) {
        check.same(name, answerOf(one), answerOf(other));
    }

    private static long answerOf(Check.Call call) {
        int kind = Check.kindOf(() -> 0);
        long answer = 0;
        try {
            answer = call.answer();
        } catch (RuntimeException e) {
            kind = Check.kindOf(() -> {
                throw e;
            });
        }
        return kind == 0 ? answer : Long.MIN_VALUE + kind;
    }

    private void showSomething(int span) {
        int film = near(Math.max(1, y.now.films.size()));
        int screen = near(3);
        int start = time(span);
        int pause = below(2) == 0 ? 0 : near(21);
        both("show", () -> x.show(film, screen, start, pause), () -> y.show(film, screen, start, pause));
    }

    private void oneCall(int which, int span) {
        int film = near(Math.max(1, y.now.films.size()));
        int screen = near(3);
        int showing = near(Math.max(1, y.now.showings.size()));
        int start = time(span);
        int pause = near(21);
        int what = near(3);
        int six = near(6);
        switch (which) {
            case 0: both("film", () -> x.film(six + 1, pause + 8), () -> y.film(six + 1, pause + 8)); break;
            case 1: both("seats", () -> x.seats(screen, 45 * six + 50), () -> y.seats(screen, 45 * six + 50)); break;
            case 2: both("set", () -> x.set(six, pause), () -> y.set(six, pause)); break;
            case 3: both("callOff", () -> x.callOff(showing), () -> y.callOff(showing)); break;
            case 4:
            case 5: both("move", () -> x.move(showing, start), () -> y.move(showing, start)); break;
            case 6: guest(film, start); break;
            case 7:
            case 8:
            case 9:
            case 10: both("attend", () -> x.attend(what, showing), () -> y.attend(what, showing)); break;
            case 11:
            case 12: both("vote", () -> x.vote(what, film, pause / 2), () -> y.vote(what, film, pause / 2)); break;
            case 13: signs(); break;
            case 14: text(span); break;
            case 15: both("undo", () -> x.undo(), () -> y.undo()); break;
            case 16: snapshot(); break;
            default: look(which, new int[] {film, screen, showing, start, pause, what, six});
        }
    }

    private void guest(int film, int come) {
        int leave = come + below(300);
        both("guest", () -> x.guest(film, come, leave), () -> y.guest(film, come, leave));
    }

    private void snapshot() {
        if (below(3) == 0) {
            both("keep", () -> x.keep(), () -> y.keep());
        } else {
            both("restore", () -> x.restore(), () -> y.restore());
        }
    }

    private void signs() {
        String signs = "0123456789/@+;0123/@12;";
        for (int i = below(12); i > 0; i--) {
            int code = below(50) == 0 ? 32 + below(96) : signs.charAt(below(signs.length()));
            both("append", () -> x.append(code), () -> y.append(code));
        }
        both("firstError", () -> x.firstError(), () -> y.firstError());
        both("program", () -> x.program(), () -> y.program());
    }

    private void text(int span) {
        both("clearBuffer", () -> x.clearBuffer(), () -> y.clearBuffer());
        StringBuilder text = new StringBuilder();
        for (int part = below(5); part >= 0; part--) {
            text.append(below(y.now.films.size() + 1)).append('/').append(near(3)).append('@').append(time(span));
            if (below(2) == 0) {
                text.append('+').append(near(21));
            }
            text.append(part == 0 && below(8) != 0 ? "" : ";");
        }
        for (int i = 0; i < text.length(); i++) {
            int code = text.charAt(i);
            both("append", () -> x.append(code), () -> y.append(code));
        }
        both("firstError", () -> x.firstError(), () -> y.firstError());
        both("program", () -> x.program(), () -> y.program());
        for (int what = 0; what < 3; what++) {
            int number = what;
            both("stopped", () -> x.stopped(number), () -> y.stopped(number));
        }
    }

    private void look(int which, int[] n) {
        int minute = Math.min(n[3], 1999);
        switch (which) {
            case 17: both("filmOf", () -> x.filmOf(n[0], n[6]), () -> y.filmOf(n[0], n[6])); break;
            case 18: both("showing", () -> x.showing(n[2], n[6]), () -> y.showing(n[2], n[6])); break;
            case 19: both("reel", () -> x.reel(n[2], n[6]), () -> y.reel(n[2], n[6])); break;
            case 20: both("runs", () -> x.runs(n[1], n[3]), () -> y.runs(n[1], n[3])); break;
            case 21: both("screen", () -> x.screen(n[1], n[6]), () -> y.screen(n[1], n[6])); break;
            case 22: both("guestOf", () -> x.guestOf(n[6], n[5] + 1), () -> y.guestOf(n[6], n[5] + 1)); break;
            case 23: both("juror", () -> x.juror(n[5], n[1]), () -> y.juror(n[5], n[1])); break;
            case 24: both("count", () -> x.count(n[4] - 4), () -> y.count(n[4] - 4)); break;
            case 25:
            case 26: both("whyNot", () -> x.whyNot(n[0], n[1], n[3], n[4], n[5]),
                    () -> y.whyNot(n[0], n[1], n[3], n[4], n[5])); break;
            case 27: both("nextStart", () -> x.nextStart(n[0], n[1], n[3]), () -> y.nextStart(n[0], n[1], n[3])); break;
            case 28: both("bestScreen", () -> x.bestScreen(n[0], minute), () -> y.bestScreen(n[0], minute)); break;
            case 29: both("ifShown", () -> x.ifShown(n[0], n[1], n[3]), () -> y.ifShown(n[0], n[1], n[3])); break;
            default: both("use", () -> (long) (x.use(n[1]) * 1e12), () -> (long) (y.use(n[1]) * 1e12));
        }
    }
}
