/** The input text, the exceptions, undo, and promises 11 to 18, sentence by sentence. */
final class EdgeTexts {
    private static final String DIGITS = "0123456789";

    private final Edges e;

    EdgeTexts(Edges edges) {
        e = edges;
    }

    void run() {
        e.heading("Input text");
        inputText();
        savedStates();
        e.heading("Exceptions");
        exceptions();
        e.heading("Promise 11: append");
        append();
        e.heading("Promise 12: clearBuffer");
        clearBuffer();
        e.heading("Promise 13: firstError");
        firstError();
        e.heading("Promise 14: program");
        program();
        e.heading("Promise 15: stopped");
        stopped();
        e.heading("Promise 16: undo");
        undo();
        e.heading("Promise 17: keep");
        keep();
        e.heading("Promise 18: restore");
        restore();
    }

    private static ReelScreens with(ReelScreens x, String text) {
        x.clearBuffer();
        PlanTests.write(x, text);
        return x;
    }

    private static int errorOf(String text) {
        return with(Makers.empty(), text).firstError();
    }

    /** Each of all codes behind a text that is right so far: only these are no syntax error. */
    private void only(String text, String next) {
        e.same(text, errorOf(text), text.length());
        for (int code = 33; code <= 126; code++) {
            boolean isRight = next.indexOf(code) >= 0;
            String longer = text + (char) code;
            e.same(longer, errorOf(longer), isRight ? longer.length() : text.length());
        }
    }

    /** A complete text makes its showings; the program is asked on 8 films. */
    private void complete(String text, int... numbers) {
        ReelScreens x = with(Makers.eightFilms(), text);
        e.same(text, x.program(), numbers.length / 4);
        for (int i = 0; i + 3 < numbers.length; i += 4) {
            int showing = i / 4;
            e.same(text + ", film", x.showing(showing, 0), numbers[i]);
            e.same(text + ", screen", x.showing(showing, 1), numbers[i + 1]);
            e.same(text + ", start", x.showing(showing, 2), numbers[i + 2]);
            e.same(text + ", break", x.showing(showing, 4), numbers[i + 3]);
        }
    }

    private void incomplete(String text) {
        e.refused(text, Check.ARGUMENT, () -> with(Makers.eightFilms(), text), ReelScreens::program);
    }

    private void inputText() {
        e.test("The buffer has at most 60 characters.", () -> {
            ReelScreens x = Makers.sixtyCodes();
            e.same("60", x.clearBuffer(), 60);
            e.refused("a 61st", Check.STATE, Makers::sixtyCodes, y -> y.append('0'));
        });
        e.test("Showings as a text are one or more parts with \";\" between them", () -> {
            incomplete("");
            complete("0/0@0", 0, 0, 0, 0);
            complete("0/0@0;1/1@1", 0, 0, 0, 0, 1, 1, 1, 0);
            complete("0/0@0;1/1@1;2/2@2", 0, 0, 0, 0, 1, 1, 1, 0, 2, 2, 2, 0);
            incomplete(";");
            incomplete("0/0@0;");
            incomplete(";0/0@0");
            incomplete("0/0@0;;1/1@1");
            incomplete("0/0@0,1/1@1");
            incomplete("0/0@01/1@1");
        });
        e.test("each a film, 0 to 7", () -> {
            only("", "01234567");
            only("0/0@0;", "01234567");
            complete("7/0@0", 7, 0, 0, 0);
            incomplete("8/0@0");
            incomplete("/0@0");
            incomplete("07/0@0");
        });
        e.test("\"/\", a screen, 0 to 2", () -> {
            for (int film = 0; film <= 7; film++) {
                only(film + "", "/");
            }
            only("3/", "012");
            complete("3/2@0", 3, 2, 0, 0);
            incomplete("3/3@0");
            incomplete("3@0");
            incomplete("3/@0");
        });
        e.test("\"@\", a start, 0 to 1999", this::theStart);
        e.test("and perhaps \"+\" and a break, 0 to 20 (0 if it is not told)", this::theBreak);
        e.test("numbers without a leading zero", this::noLeadingZero);
        e.test("The buffer is read from left to right; a character is a syntax error if no showings as a text, of"
                + " any length, begin with the characters before it and this character.", this::ofAnyLength);
    }

    private void theStart() {
        for (int screen = 0; screen <= 2; screen++) {
            only("3/" + screen, "@");
        }
        only("3/0@", DIGITS);
        only("3/0@1", DIGITS + "+;");
        only("3/0@2", DIGITS + "+;");
        only("3/0@19", DIGITS + "+;");
        only("3/0@99", DIGITS + "+;");
        only("3/0@100", DIGITS + "+;");
        only("3/0@199", DIGITS + "+;");
        only("3/0@200", "+;");
        only("3/0@999", "+;");
        only("3/0@1000", "+;");
        only("3/0@1999", "+;");
        complete("3/0@1999");
        complete("3/0@1948", 3, 0, 1948, 0);
        incomplete("3/0@2000");
        incomplete("3/0@10000");
        incomplete("3/0@");
        incomplete("3/0");
        for (int start = 0; start <= 9999; start++) {
            e.same("start " + start, errorOf("3/0@" + start), start <= 1999 ? 4 + (start + "").length() : 7);
        }
    }

    private void theBreak() {
        only("3/0@7+", DIGITS);
        only("3/0@7+1", DIGITS + ";");
        only("3/0@7+2", "0;");
        for (int pause = 3; pause <= 20; pause++) {
            only("3/0@7+" + pause, ";");
        }
        for (int pause = 0; pause <= 20; pause++) {
            complete("3/0@7+" + pause, 3, 0, 7, pause);
        }
        for (int pause = 21; pause <= 99; pause++) {
            e.same("break " + pause, errorOf("3/0@7+" + pause), 7);
        }
        complete("3/0@7+20;0/1@3", 3, 0, 7, 20, 0, 1, 3, 0);
        incomplete("3/0@7+");
        incomplete("3/0@7+21");
        incomplete("3/0@7+20+1");
        incomplete("3/0@7+100");
        incomplete("3/0+7");
    }

    private void noLeadingZero() {
        only("0/0@0", "+;");
        only("0/0@7+0", ";");
        for (int number = 0; number <= 9; number++) {
            incomplete("0/0@0" + number);
            incomplete("0/0@7+0" + number);
            incomplete("0/0@5;0/1@0" + number);
        }
        complete("0/0@0+0", 0, 0, 0, 0);
        complete("0/0@10+10", 0, 0, 10, 10);
        incomplete("00/0@0");
        incomplete("0/00@0");
    }

    private void ofAnyLength() {
        String sixty = "0/0@100+10;1/1@200+20;2/2@300+15;3/0@1400;4/1@500;5/2@600+20";
        e.same("the text has 60 characters", sixty.substring(0, 60).length(), 60);
        for (int length = 0; length <= 60; length++) {
            e.same("the first " + length, errorOf(sixty.substring(0, length)), length);
            if (length < 60) {
                e.same("an error behind the first " + length, errorOf(sixty.substring(0, length) + "~"), length);
            }
        }
        for (int error = 0; error < 60; error++) {
            String text = sixty.substring(0, error) + "!" + sixty.substring(0, 59 - error);
            e.same("the first error counts, what comes behind it does not", errorOf(text), error);
        }
        String open = "0/0@100;0/0@200;0/0@300;0/0@400;0/0@500;0/0@600;0/0@700;0/0@";
        e.same("60 characters that only a longer text can end", errorOf(open), 60);
        incomplete(open);
    }

    private void savedStates() {
        e.test("Each method that is marked \"undoable\" and does not throw an exception saves the state from before"
                + " it (also if it changes nothing)", this::savedAlsoIfNothingChanges);
        e.test("all, also what is counted so far and the latest stop, but the buffer, the saved states and the"
                + " snapshot", this::whatAStateHolds);
        e.test("At most 6 states are saved", () -> {
            ReelScreens x = Makers.empty();
            for (int call = 1; call <= 20; call++) {
                x.seats(0, 100 + call);
                e.same("saved states", x.count(11), Math.min(call, 6));
            }
        });
        e.test("the oldest one is dropped first", () -> {
            for (int calls = 6; calls <= 20; calls++) {
                ReelScreens x = Makers.empty();
                for (int call = 1; call <= calls; call++) {
                    x.seats(0, 100 + call);
                }
                for (int left = 5; left >= 0; left--) {
                    e.same("undo", x.undo(), left);
                    e.same("seats", x.screen(0, 0), 100 + calls - 6 + left);
                }
                e.same("none is left", Edges.kindOf(ReelScreens::undo, x), Check.STATE);
            }
        });
    }

    private void savedAlsoIfNothingChanges() {
        Edges.Call[] calls = {x -> x.seats(1, 222), x -> x.set(0, 10), x -> x.move(0, 100), x -> x.vote(0, 0, 7),
            x -> with(x, "0/0@100").program(), x -> with(x, "7/0@0").program()};
        for (Edges.Call call : calls) {
            e.undoable(Makers::rich, call);
            ReelScreens x = Makers.richWithSixSaved();
            call.answer(x);
            e.same("saved states", x.count(11), 6);
            x.undo();
            e.same("saved states", x.count(11), 5);
        }
        ReelScreens x = Makers.rich();
        x.restore();
        x.restore();
        e.same("restore of what is there already", x.count(11), 4);
        Edges.Call[] others = {y -> y.append('0'), ReelScreens::clearBuffer, ReelScreens::firstError,
            ReelScreens::keep, y -> y.stopped(0)};
        for (Edges.Call other : others) {
            e.notUndoable(Makers::rich, other);
        }
    }

    private void whatAStateHolds() {
        ReelScreens x = Makers.rich();
        x.callOff(1);
        with(x, "1/1@500;2/1@501").program();
        PlanTests.write(x, "0/1");
        x.keep();
        e.same("called off", x.count(5), 3);
        e.same("stop", x.stopped(0) * 100 + x.stopped(1) * 10 + x.stopped(2), 100 + 30 + 2);
        x.undo();
        e.same("the stop from before", x.stopped(0) * 100 + x.stopped(1) * 10 + x.stopped(2), 100 + 30);
        e.same("called off", x.count(5), 3);
        x.undo();
        e.same("called off from before", x.count(5), 2);
        e.same("goers from before", x.showing(1, 5), 2);
        e.same("undo leaves the buffer", x.clearBuffer(), 3);
        e.same("undo drops only one saved state", x.count(11), 2);
        e.same("undo leaves the snapshot", x.restore(), 3);
        e.same("called off, as the snapshot has it", x.count(5), 3);
        e.same("stop, as the snapshot has it", x.stopped(2), 2);
    }

    private void exceptions() {
        e.test("A call that throws an exception changes nothing.", this::aThrowChangesNothing);
        e.test("If several exceptions apply, the one that is named first in the throws clause is thrown.",
                this::theFirstNamed);
        e.test("The constants: `NONE = -1`: There is nothing to return.",
                () -> e.same("NONE", ReelScreens.NONE, -1));
    }

    private void aThrowChangesNothing() {
        Edges.Call[] calls = {x -> x.film(0, 10), x -> x.seats(3, 100), x -> x.set(4, 0), x -> x.show(1, 0, 100, 0),
            x -> x.callOff(3), x -> x.move(0, 1990), x -> x.guest(3, 0, 1), x -> x.attend(0, 0),
            x -> x.vote(2, 0, 1), x -> x.append(32), x -> x.stopped(3), x -> x.filmOf(3, 0), x -> x.showing(3, 0),
            x -> x.reel(0, 6), x -> x.runs(3, 0), x -> x.screen(3, 0), x -> x.guestOf(2, 0), x -> x.juror(3, 0),
            x -> x.count(12), x -> x.whyNot(3, 0, 0, 0, 0), x -> x.nextStart(3, 0, 0), x -> x.bestScreen(3, 0),
            x -> x.ifShown(3, 0, 0), x -> (long) x.use(3)};
        int[] kinds = {2, 1, 1, 3, 1, 3, 1, 3, 3, 2, 2, 1, 1, 2, 1, 1, 1, 1, 2, 1, 1, 1, 1, 1};
        for (int i = 0; i < calls.length; i++) {
            e.refused("call " + i, kinds[i], Makers::rich, calls[i]);
            e.refused("call " + i + " with 6 saved states", kinds[i], Makers::richWithSixSaved, calls[i]);
        }
        e.refused("program", Check.ARGUMENT, () -> with(Makers.rich(), "0/0@1;"), ReelScreens::program);
        e.refused("undo", Check.STATE, Makers::sixtyCodes, ReelScreens::undo);
        e.refused("restore", Check.STATE, Makers::twelveShowings, ReelScreens::restore);
    }

    private void theFirstNamed() {
        e.refused("film", Check.ARGUMENT, Makers::eightFilms, x -> x.film(7, 9));
        e.refused("seats", Check.INDEX, Makers::rich, x -> x.seats(-1, 0));
        e.refused("set", Check.INDEX, Makers::rich, x -> x.set(-1, -1));
        e.refused("show", Check.INDEX, Makers::twelveShowings, x -> x.show(1, 3, 2000, 21));
        e.refused("show", Check.ARGUMENT, Makers::twelveShowings, x -> x.show(0, 2, 2000, 21));
        e.refused("move", Check.INDEX, Makers::rich, x -> x.move(3, 2000));
        e.refused("guest", Check.INDEX, Makers::sixGuests, x -> x.guest(1, 2000, 0));
        e.refused("guest", Check.ARGUMENT, Makers::sixGuests, x -> x.guest(0, 2000, 0));
        e.refused("vote", Check.INDEX, Makers::rich, x -> x.vote(3, 0, 11));
        e.refused("vote", Check.ARGUMENT, Makers::rich, x -> x.vote(2, 2, 11));
        e.refused("append", Check.ARGUMENT, Makers::sixtyCodes, x -> x.append(127));
        e.refused("whyNot", Check.INDEX, Makers::rich, x -> x.whyNot(0, 3, -1, -1, -1));
    }

    private void append() {
        e.test("Appends a character to the buffer.", () -> {
            ReelScreens x = Makers.rich();
            x.append('+');
            x.append('7');
            e.same("program", x.program(), 1);
            e.row("showing", (y, what) -> y.showing(3, what), x, 0, 1, 900, 927, 7, 0);
        });
        e.test("`code`: the character code, 33 to 126", () -> {
            e.range(33, 126, Check.ARGUMENT, Makers::rich, ReelScreens::append);
            for (int code = 33; code <= 126; code++) {
                ReelScreens x = Makers.empty();
                long before = x.digest();
                x.append(code);
                // The length of the buffer was the last value of the digest; now the code comes behind it.
                e.same("the code is kept", x.digest(), (before + 1) * 31 + code);
            }
        });
        e.test("Returns the new length of the buffer.", () -> {
            ReelScreens x = Makers.empty();
            for (int length = 1; length <= 60; length++) {
                e.same("append", x.append('~'), length);
            }
            x.clearBuffer();
            e.same("append", x.append('!'), 1);
        });
        e.test("Throws `IllegalArgumentException` if code is not 33 to 126", () -> {
            for (int code : new int[] {32, 127, 0, -1, 288, Edges.LEAST, Edges.GREATEST}) {
                e.refused("code " + code, Check.ARGUMENT, Makers::rich, x -> x.append(code));
                e.refused("code " + code + ", full", Check.ARGUMENT, Makers::sixtyCodes, x -> x.append(code));
            }
        });
        e.test("Throws `IllegalStateException` if the buffer has 60 characters", () -> {
            e.refused("the least code", Check.STATE, Makers::sixtyCodes, x -> x.append(33));
            e.refused("the greatest code", Check.STATE, Makers::sixtyCodes, x -> x.append(126));
            e.answers("at 59", () -> with(Makers.empty(), "~".repeat(59)), x -> x.append(33));
        });
    }

    private void clearBuffer() {
        e.test("Clears the buffer.", () -> {
            ReelScreens x = Makers.sixtyCodes();
            x.clearBuffer();
            e.sameAll("it is as at first", x, Makers.empty());
            ReelScreens y = with(Makers.eightFilms(), "0/0@5+");
            y.clearBuffer();
            PlanTests.write(y, "1/1@6");
            e.same("what was cleared is not read", y.program(), 1);
            e.same("start", y.showing(0, 2), 6);
        });
        e.test("Returns the length that it had.", () -> {
            for (int length = 0; length <= 60; length++) {
                ReelScreens x = with(Makers.empty(), "~".repeat(length));
                e.same("clearBuffer", x.clearBuffer(), length);
                e.same("clearBuffer", x.clearBuffer(), 0);
            }
        });
    }

    private void firstError() {
        e.test("Finds the first syntax error of the buffer.", () -> {
            e.look(Makers::rich, ReelScreens::firstError);
            e.look(Makers::sixtyCodes, ReelScreens::firstError);
            e.same("of two", errorOf("0/9@9/"), 2);
        });
        e.test("Returns the index of the first character that is a syntax error", () -> {
            String text = "7/2@1999+20;7/2@1999+20;7/2@1999+20;7/2@1999+20;7/2@1999+20;";
            for (int index = 0; index < 60; index++) {
                e.same("firstError", errorOf(text.substring(0, index) + "x" + text.substring(0, 59 - index)), index);
            }
        });
        e.test("the length of the buffer if there is none", () -> {
            String text = "7/2@1999+20;7/2@1999+20;7/2@1999+20;7/2@1999+20;7/2@1999+20;";
            for (int length = 0; length <= 60; length++) {
                e.same("firstError", errorOf(text.substring(0, length)), length);
            }
        });
    }

    private void program() {
        e.test("Makes the showings in the buffer, one after the other, up to the first one that is refused, or"
                + " whose film there is not, and clears the buffer.", this::programUpToTheFirst);
        e.test("Undoable, as one call, also if none is made.", () -> {
            e.undoable(() -> with(Makers.rich(), "0/1@900;1/1@1000;2/1@1100"), ReelScreens::program);
            e.undoable(() -> with(Makers.rich(), "0/1@900;1/1@1000;1/1@1001"), ReelScreens::program);
            e.undoable(() -> with(Makers.rich(), "1/1@300"), ReelScreens::program);
            e.undoable(() -> with(Makers.rich(), "3/1@900"), ReelScreens::program);
        });
        e.test("The latest stop is that of this call then, or none, if all are made.", () -> {
            ReelScreens x = with(Makers.rich(), "3/1@900");
            x.program();
            e.row("stopped", ReelScreens::stopped, x, 0, 5, -1);
            PlanTests.write(x, "0/1@900;2/1@901");
            x.program();
            e.row("stopped", ReelScreens::stopped, x, 1, 3, 3);
            PlanTests.write(x, "2/1@1000");
            x.program();
            e.row("stopped", ReelScreens::stopped, x, -1, -1, -1);
        });
        e.test("Returns how many are made.", this::howManyAreMade);
        e.test("Throws `IllegalArgumentException` if the buffer is not complete showings as a text (the buffer stays)",
                () -> {
                    String text = "7/2@1999+20;0/0@5";
                    for (int length = 0; length <= text.length(); length++) {
                        String part = text.substring(0, length);
                        boolean isComplete = length >= 5 && length != 9 && length != 12 && (length < 13 || length == 17);
                        if (!isComplete) {
                            incomplete(part);
                        }
                        ReelScreens x = with(Makers.eightFilms(), part);
                        e.same(part, Edges.kindOf(ReelScreens::program, x), isComplete ? 0 : Check.ARGUMENT);
                        e.same("the buffer of " + part, x.clearBuffer(), isComplete ? 0 : length);
                    }
                    incomplete("0/0@5!");
                    incomplete("!0/0@5");
                });
    }

    private void programUpToTheFirst() {
        ReelScreens x = with(Makers.rich(), "0/1@900;1/1@1000;1/1@1001;2/0@1500");
        e.same("program", x.program(), 2);
        e.same("showings", x.count(1), 5);
        e.row("the first", (y, what) -> y.showing(3, what), x, 0, 1, 900, 920, 0, 0);
        e.row("the second", (y, what) -> y.showing(4, what), x, 1, 1, 1000, 1010, 0, 0);
        e.same("the buffer", x.clearBuffer(), 0);
        PlanTests.write(x, "1/0@900;3/0@1000;2/0@1500");
        e.same("up to the film that there is not", x.program(), 1);
        e.same("showings", x.count(1), 6);
        e.same("the buffer", x.clearBuffer(), 0);
        ReelScreens none = with(Makers.empty(), "0/0@0");
        e.same("no film at all", none.program(), 0);
        e.row("stopped", ReelScreens::stopped, none, 0, 5, -1);
        ReelScreens last = with(Makers.eightFilms(), "7/0@0");
        e.same("the film 7 of 8", last.program(), 1);
    }

    private void howManyAreMade() {
        ReelScreens x = with(Makers.bare(), "0/0@0;0/0@10;0/0@20;0/0@30;0/0@40;0/0@50;0/0@60;0/0@70+9");
        e.same("8 of 8", x.program(), 8);
        PlanTests.write(x, "0/0@100;0/0@200;0/0@300;0/0@400;0/0@500;0/0@600");
        e.same("4 of 6, then there are 12", x.program(), 4);
        e.row("stopped", ReelScreens::stopped, x, 4, 1, -1);
        e.same("showings", x.count(1), 12);
        PlanTests.write(x, "0/0@900");
        e.same("none of 1", x.program(), 0);
        e.row("stopped", ReelScreens::stopped, x, 0, 1, -1);
        ReelScreens most = with(Makers.eightFilms(), "0/0@0;1/1@0;2/2@0;0/0@0;0/0@0;0/0@0;0/0@0;0/0@0;0/0@0;0/0@0");
        e.same("3 of 10", most.program(), 3);
        e.row("stopped", ReelScreens::stopped, most, 3, 3, 0);
        ReelScreens late = Makers.bare();
        late.film(1, 10);
        late.film(1, 10);
        with(late, "0/0@0;1/1@0;2/2@0;0/0@10;1/1@10;2/2@10;0/0@20;1/1@20;0/0@5");
        e.same("8 of 9", late.program(), 8);
        e.row("stopped", ReelScreens::stopped, late, 8, 3, 0);
    }

    private void stopped() {
        e.test("Tells of the latest stop of program().", () -> {
            e.row("stopped", ReelScreens::stopped, Makers.empty(), -1, -1, -1);
            e.row("stopped", ReelScreens::stopped, Makers.rich(), 1, 3, 0);
            e.look(Makers::rich, x -> x.stopped(2));
        });
        e.test("0: the number of the part that stopped it, from 0", () -> {
            String text = "0/0@0;0/0@10;0/0@20;0/0@30;0/0@40;0/0@50;0/0@60;0/0@70";
            for (int part = 0; part < 8; part++) {
                ReelScreens x = Makers.bare();
                x.film(1, 10);
                x.show(1, 0, 10 * part, 0);
                with(x, text).program();
                e.row("stopped", ReelScreens::stopped, x, part, 3, 0);
            }
        });
        e.test("1: the reason, 1 to 4, or 5 if there is no such film", this::eachReason);
        e.test("2: the lowest showing that stands in its way by the reason (its number as it was then), NONE for the"
                + " reasons 1, 2 and 5", this::theLowestInItsWay);
        e.test("Returns the number; NONE if there is no stop.", () -> {
            ReelScreens x = with(Makers.rich(), "2/1@900");
            x.program();
            e.row("stopped", ReelScreens::stopped, x, -1, -1, -1);
            x.undo();
            e.row("stopped", ReelScreens::stopped, x, 1, 3, 0);
        });
        e.test("Throws `IllegalArgumentException` if what is not 0 to 2", () -> {
            e.range(0, 2, Check.ARGUMENT, Makers::rich, ReelScreens::stopped);
            e.range(0, 2, Check.ARGUMENT, Makers::empty, ReelScreens::stopped);
        });
    }

    private void eachReason() {
        String[] texts = {"0/0@1500", "1/0@1991", "1/0@139", "0/1@119+5", "3/0@0"};
        for (int reason = 1; reason <= 5; reason++) {
            ReelScreens x = with(reason == 1 ? Makers.twelveShowings() : Makers.rich(), texts[reason - 1]);
            e.same("program", x.program(), 0);
            e.row("stopped", ReelScreens::stopped, x, 0, reason, reason == 3 || reason == 4 ? 0 : -1);
        }
        ReelScreens x = with(Makers.twelveShowings(), "1/0@0");
        x.program();
        e.same("no such film, and 12 showings", x.stopped(1), 5);
    }

    private void theLowestInItsWay() {
        ReelScreens x = Makers.bare();
        x.film(3, 20);
        x.show(0, 0, 140, 0);
        x.show(0, 0, 100, 0);
        x.show(0, 1, 160, 0);
        with(x, "1/0@95").program();
        e.row("of two on its screen", ReelScreens::stopped, x, 0, 3, 0);
        with(x, "0/2@155+2").program();
        e.row("by its reel", ReelScreens::stopped, x, 0, 4, 2);
        with(x, "0/2@145").program();
        e.row("by its reel", ReelScreens::stopped, x, 0, 4, 0);
        x.set(0, 60);
        with(x, "0/2@155+2").program();
        e.row("of three by its reel", ReelScreens::stopped, x, 0, 4, 0);
        x.set(0, 0);
        with(x, "0/2@0;0/2@165").program();
        e.row("by its reel", ReelScreens::stopped, x, 1, 4, 2);
        x.callOff(0);
        e.row("its number as it was then", ReelScreens::stopped, x, 1, 4, 2);
        x.callOff(1);
        e.row("also if it goes", ReelScreens::stopped, x, 1, 4, 2);
    }

    private void undo() {
        e.test("Restores the latest saved state, and drops it.", () -> {
            Edges.Call[] calls = {x -> x.film(1, 10), x -> x.seats(0, 50), x -> x.set(2, 3), x -> x.show(2, 1, 900, 3),
                x -> x.callOff(0), x -> x.move(0, 900), x -> x.guest(1, 2, 3), x -> x.attend(2, 0),
                x -> x.vote(0, 0, 1), ReelScreens::program, ReelScreens::restore};
            for (Edges.Call call : calls) {
                e.undoable(Makers::rich, call);
            }
            ReelScreens x = Makers.rich();
            x.seats(0, 50);
            x.seats(0, 60);
            x.undo();
            e.same("seats", x.screen(0, 0), 50);
            x.undo();
            e.same("seats", x.screen(0, 0), 100);
        });
        e.test("Returns how many saved states are left.", () -> {
            ReelScreens x = Makers.richWithSixSaved();
            for (int left = 5; left >= 0; left--) {
                e.same("undo", x.undo(), left);
                e.same("saved states", x.count(11), left);
            }
        });
        e.test("Throws `IllegalStateException` if there is none", () -> {
            e.refused("at first", Check.STATE, Makers::empty, ReelScreens::undo);
            e.refused("when all are dropped", Check.STATE, () -> {
                ReelScreens x = Makers.richWithSixSaved();
                for (int i = 0; i < 6; i++) {
                    x.undo();
                }
                return x;
            }, ReelScreens::undo);
        });
    }

    private void keep() {
        e.test("Takes a snapshot, in place of the one before.", () -> {
            ReelScreens x = Makers.rich();
            x.callOff(0);
            x.keep();
            x.callOff(0);
            e.same("restore", x.restore(), 2);
            e.same("called off", x.count(5), 3);
            x.callOff(0);
            x.callOff(0);
            e.same("it is no part of what it tells of", x.restore(), 2);
            e.same("the start", x.showing(0, 2), 300);
            ReelScreens y = Makers.rich();
            long before = y.digest();
            y.keep();
            e.same("nothing else changes", y.digest(), before);
        });
        e.test("Returns how many showings there are.", () -> {
            e.same("none", Makers.empty().keep(), 0);
            e.same("3", Makers.rich().keep(), 3);
            e.same("12", Makers.twelveShowings().keep(), 12);
        });
    }

    private void restore() {
        e.test("Restores the state of the snapshot, which stays.", () -> {
            ReelScreens x = Makers.rich();
            x.seats(1, 200);
            x.keep();
            x.callOff(0);
            x.film(6, 25);
            x.set(3, 9);
            for (int i = 0; i < 3; i++) {
                x.restore();
                e.same("saved states", x.count(11), 6);
                e.same("showings", x.count(1), 3);
                e.same("films", x.count(0), 3);
                e.same("setting", x.count(10), 5);
                e.same("called off", x.count(5), 2);
                e.row("stop", ReelScreens::stopped, x, 1, 3, 0);
                e.row("goers and points", (y, film) -> y.filmOf(film, 4) * 100 + y.filmOf(film, 5), x, 311, 200, 0);
                x.vote(0, 0, i);
            }
            e.same("the buffer stays", x.clearBuffer(), 7);
        });
        e.test("Undoable.", () -> e.undoable(Makers::rich, ReelScreens::restore));
        e.test("Returns how many showings there are then.", () -> {
            e.same("3", Makers.rich().restore(), 3);
            ReelScreens x = Makers.twelveShowings();
            x.keep();
            x.callOff(0);
            e.same("12", x.restore(), 12);
            ReelScreens y = Makers.empty();
            y.keep();
            y.film(1, 10);
            y.show(0, 0, 0, 0);
            e.same("none", y.restore(), 0);
            e.same("films", y.count(0), 0);
        });
        e.test("Throws `IllegalStateException` if there is no snapshot", () -> {
            e.refused("at first", Check.STATE, Makers::empty, ReelScreens::restore);
            e.refused("with saved states", Check.STATE, Makers::twelveShowings, ReelScreens::restore);
        });
    }
}
