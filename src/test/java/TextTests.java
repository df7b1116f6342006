/** Promises 11 to 18: the buffer, showings as texts, undo and the snapshot. */
final class TextTests {
    private final Check check;

    TextTests(Check check) {
        this.check = check;
    }

    void run() {
        append();
        clearBuffer();
        firstError();
        program();
        programStops();
        programRefusesTexts();
        stopped();
        undo();
        undoOfEach();
        keepAndRestore();
    }

    private void append() {
        check.at("promise 11");
        ReelScreens x = new ReelScreens();
        check.refused("code 32", x, Check.ARGUMENT, () -> x.append(32));
        check.refused("code 127", x, Check.ARGUMENT, () -> x.append(127));
        check.refused("code -1", x, Check.ARGUMENT, () -> x.append(-1));
        check.same("append", x.append(33), 1);
        check.same("append", x.append(126), 2);
        for (int length = 3; length <= 60; length++) {
            check.same("append", x.append('0'), length);
        }
        check.refused("a sixty-first", x, Check.STATE, () -> x.append('0'));
        check.refused("a wrong sixty-first", x, Check.ARGUMENT, () -> x.append(32));
        check.same("no state is saved", x.count(11), 0);
    }

    private void clearBuffer() {
        check.at("promise 12");
        ReelScreens x = new ReelScreens();
        check.same("clearBuffer", x.clearBuffer(), 0);
        PlanTests.write(x, "9/9");
        check.same("firstError", x.firstError(), 0);
        check.same("clearBuffer", x.clearBuffer(), 3);
        check.same("clearBuffer", x.clearBuffer(), 0);
        check.same("append", x.append('0'), 1);
        check.same("firstError", x.firstError(), 1);
        check.same("no state is saved", x.count(11), 0);
    }

    private void firstError() {
        check.at("promise 13");
        String[] right = {"", "0", "7/", "0/2", "0/0@", "0/0@0", "0/0@1", "0/0@1999", "0/0@999", "0/0@20",
            "0/0@0+", "0/0@7+0", "0/0@7+2", "0/0@7+20", "0/0@7+19", "0/0@7+9", "0/0@0;", "0/0@0+3;1",
            "0/0@0;1/1@1;2/2@2;3/0@3;4/1@4;5/2@5;6/0@6;7/1@7;0/2@8;1/0@9;"};
        for (String text : right) {
            check.same(text, errorOf(text), text.length());
        }
        // Each is wrong at its last character, and stays so whatever comes behind it.
        String[] wrong = {"8", "/", "a", ";", "+", "@", "00", "0;", "0/3", "0//", "0/-", "0/0/", "0/0;", "0/00",
            "0/0@-", "0/0@:", "0/0@1:", "0/0@5+:", "0/0@5+1:", "0/0@;", "0/0@+", "0/0@00", "0/0@01", "0/0@2000", "0/0@10000", "0/0@1/", "0/0@1@", "0/0@0:",
            "0/0@5++", "0/0@5+;", "0/0@5+-", "0/0@5+00", "0/0@5+01", "0/0@5+21", "0/0@5+30", "0/0@5+200",
            "0/0@5+2+", "0/0@5+2@", "0/0@5+2:", "0/0@5;;", "0/0@5;8", "0/0@5+1;/", "0/0@5;0/0@5;9"};
        for (String text : wrong) {
            check.same(text, errorOf(text), text.length() - 1);
            check.same(text + "0/0@0", errorOf(text + "0/0@0"), text.length() - 1);
        }
        for (int start = 0; start < 2000; start++) {
            String text = "0/0@" + start;
            check.same(text, errorOf(text), text.length());
        }
        for (int pause = 0; pause <= 20; pause++) {
            String text = "0/0@0+" + pause;
            check.same(text, errorOf(text), text.length());
        }
    }

    private static int errorOf(String text) {
        ReelScreens x = new ReelScreens();
        PlanTests.write(x, text);
        return x.firstError();
    }

    private void program() {
        check.at("promise 14");
        ReelScreens x = new ReelScreens();
        x.film(1, 10);
        x.film(2, 12);
        PlanTests.write(x, "0/0@1990;1/1@100+13;0/2@7+9;1/0@300");
        check.same("program", x.program(), 4);
        check.same("the buffer is clear", x.clearBuffer(), 0);
        int[][] showings = {{0, 0, 1990, 2000, 0, 0}, {1, 1, 100, 137, 13, 0}, {0, 2, 7, 26, 9, 0},
            {1, 0, 300, 324, 0, 0}};
        for (int showing = 0; showing < showings.length; showing++) {
            for (int what = 0; what <= 5; what++) {
                check.same("showing " + showing + ", " + what, x.showing(showing, what), showings[showing][what]);
            }
        }
        check.same("no stop", x.stopped(0), -1);
        PlanTests.write(x, "0/0@5");
        check.same("saved as one call", x.undo(), 2);
        check.same("showings", x.count(1), 0);
        check.same("undo leaves the buffer", x.clearBuffer(), 5);
    }

    private void programStops() {
        check.at("promise 14, stops");
        ReelScreens x = new ReelScreens();
        x.film(1, 10);
        PlanTests.write(x, "0/0@0;0/0@20;0/0@100");
        check.same("program", x.program(), 1);
        check.same("part", x.stopped(0), 1);
        check.same("reason", x.stopped(1), 3);
        check.same("in its way, made by the same call", x.stopped(2), 0);
        check.same("the buffer is clear", x.clearBuffer(), 0);
        check.same("showings", x.count(1), 1);
        PlanTests.write(x, "1/0@100");
        check.same("no film", x.program(), 0);
        check.same("part", x.stopped(0), 0);
        check.same("reason", x.stopped(1), 5);
        check.same("in its way", x.stopped(2), -1);
        check.same("saved also if none is made", x.undo(), 2);
        check.same("the part before", x.stopped(0), 1);
        check.same("the stop before", x.stopped(1), 3);
        check.same("what was in its way before", x.stopped(2), 0);
        PlanTests.write(x, "0/1@500;0/2@1991");
        check.same("too late", x.program(), 1);
        check.same("part", x.stopped(0), 1);
        check.same("reason", x.stopped(1), 2);
        check.same("in its way", x.stopped(2), -1);
        PlanTests.write(x, "0/2@501");
        check.same("reel", x.program(), 0);
        check.same("reason", x.stopped(1), 4);
        check.same("in its way", x.stopped(2), 1);
        x.callOff(0);
        check.same("its number as it was then", x.stopped(2), 1);
        PlanTests.write(x, "0/0@0");
        check.same("all are made", x.program(), 1);
        check.same("no stop", x.stopped(0) + x.stopped(1) + x.stopped(2), -3);
        programWithTwelve();
    }

    private void programWithTwelve() {
        ReelScreens x = new ReelScreens();
        x.film(1, 10);
        PlanTests.write(x, "0/0@0;0/0@25;0/0@50;0/0@75;0/0@100;0/0@125;0/0@150;0/0@175");
        check.same("program", x.program(), 8);
        PlanTests.write(x, "0/0@200;0/0@225;0/0@250;0/0@275;0/0@1999+20;0/0@0");
        check.same("program", x.program(), 4);
        check.same("part", x.stopped(0), 4);
        check.same("reason", x.stopped(1), 1);
        check.same("in its way", x.stopped(2), -1);
        PlanTests.write(x, "7/0@0");
        check.same("program", x.program(), 0);
        check.same("no film, and twelve", x.stopped(1), 5);
    }

    private void programRefusesTexts() {
        check.at("promise 14, wrong inputs");
        String[] wrong = {"", "0", "0/", "0/0", "0/0@", "0/0@5;", "0/0@5+", "0/0@5;0/0@", "0/0@05", "0/0@5+21",
            "0/0@5+1+", "8/0@5"};
        for (String text : wrong) {
            ReelScreens x = new ReelScreens();
            x.film(1, 10);
            PlanTests.write(x, text);
            check.refused(text, x, Check.ARGUMENT, x::program);
            check.same("the buffer stays", x.clearBuffer(), text.length());
            check.same("no state is saved", x.count(11), 1);
        }
    }

    private void stopped() {
        check.at("promise 15");
        ReelScreens x = new ReelScreens();
        check.refused("what -1", x, Check.ARGUMENT, () -> x.stopped(-1));
        check.refused("what 3", x, Check.ARGUMENT, () -> x.stopped(3));
        PlanTests.write(x, "0/0@5");
        x.program();
        check.same("part", x.stopped(0), 0);
        check.same("reason", x.stopped(1), 5);
        check.same("in its way", x.stopped(2), -1);
        x.undo();
        check.same("no stop", x.stopped(1), -1);
    }

    private void undo() {
        check.at("promise 16");
        ReelScreens x = new ReelScreens();
        check.refused("none is saved", x, Check.STATE, x::undo);
        for (int reels = 1; reels <= 6; reels++) {
            x.film(reels, 10);
            check.same("saved", x.count(11), reels);
        }
        x.seats(0, 100);
        check.same("at most 6 are saved", x.count(11), 6);
        x.film(1, 20);
        for (int left = 5; left >= 0; left--) {
            check.same("undo", x.undo(), left);
            check.same("saved", x.count(11), left);
        }
        check.same("the oldest are dropped first", x.count(0), 2);
        check.refused("none is left", x, Check.STATE, x::undo);
        x.seats(0, 100);
        check.same("saved also if nothing changes", x.count(11), 1);
        x.film(1, 20);
        check.same("a row is used again", x.filmOf(2, 1), 20);
        x.undo();
        x.undo();
        check.same("films", x.count(0), 2);
    }

    private void undoOfEach() {
        check.at("promise 16, each undoable call");
        ReelScreens x = new ReelScreens();
        x.film(1, 10);
        x.show(0, 0, 100, 0);
        x.attend(0, 0);
        Check.Call[] calls = {() -> x.film(2, 20), () -> x.seats(1, 77), () -> x.set(2, 33),
            () -> x.show(0, 1, 500, 4), () -> x.callOff(0), () -> x.move(0, 900), () -> x.guest(0, 0, 2000),
            () -> x.attend(1, 0), () -> x.vote(0, 0, 8), x::restore, () -> programOf(x)};
        x.set(0, 1);
        x.keep();
        x.set(0, 2);
        for (int i = 0; i < calls.length; i++) {
            long before = x.digest();
            int saved = x.count(11);
            calls[i].answer();
            check.same("saved by " + i, x.count(11), saved + 1);
            check.holds("changed by " + i, x.digest() != before);
            check.same("undo of " + i, x.undo(), saved);
            check.same("digest after undo of " + i, x.digest(), before);
        }
        x.undo();
        x.undo();
        x.undo();
        check.same("append does not save", x.append('0') + x.count(11), 1 + 2);
        check.same("clearBuffer does not save", x.clearBuffer() + x.count(11), 1 + 2);
        check.same("keep does not save", x.keep() + x.count(11), 1 + 2);
    }

    private static int programOf(ReelScreens x) {
        PlanTests.write(x, "0/2@1000;5/0@0");
        return x.program();
    }

    private void keepAndRestore() {
        check.at("promises 17 and 18");
        ReelScreens x = new ReelScreens();
        check.refused("no snapshot", x, Check.STATE, x::restore);
        check.same("keep", x.keep(), 0);
        x.film(1, 10);
        x.show(0, 0, 0, 0);
        x.show(0, 0, 100, 0);
        x.attend(1, 1);
        x.vote(1, 0, 6);
        x.guest(0, 0, 2000);
        x.callOff(0);
        PlanTests.write(x, "0/0@100");
        x.program();
        check.same("restore", x.restore(), 0);
        check.same("films", x.count(0), 0);
        check.same("called off", x.count(5), 0);
        check.same("no stop", x.stopped(1), -1);
        check.same("undo of restore", x.undo(), 5);
        check.same("showings", x.count(1), 1);
        check.same("stop", x.stopped(1), 3);
        long before = x.digest();
        check.same("keep in place of the one before", x.keep(), 1);
        check.same("keep changes nothing", x.digest(), before);
        x.undo();
        x.undo();
        x.undo();
        x.set(3, 7);
        x.append('0');
        check.same("restore", x.restore(), 1);
        check.same("the snapshot stays", x.restore(), 1);
        check.same("called off", x.count(5), 1);
        check.same("stop", x.stopped(1), 3);
        check.same("points", x.filmOf(0, 5), 6);
        check.same("setting", x.count(10), 5);
        check.same("the buffer is left alone", x.clearBuffer(), 1);
        check.same("saved", x.count(11), 5);
        x.film(6, 25);
        check.same("the snapshot does not change along", x.restore() + x.count(0), 2);
    }
}
