/**
 * A film festival: films with one print of each reel, three screens, showings, guests, jurors,
 * showings as texts, undo and one snapshot. The face checks what it is given and holds the buffer,
 * the saved states and the snapshot; Festival holds one state and reckons with it.
 */
public final class ReelScreens {
    public static final int NONE = -1;

    private static final int MOST_FILMS = 8;
    private static final int MOST_REELS = 6;
    private static final int LEAST_REEL_MINUTES = 10;
    private static final int MOST_REEL_MINUTES = 25;
    private static final int SCREENS = 3;
    private static final int LEAST_SEATS = 50;
    private static final int MOST_SEATS = 400;
    private static final int MOST_SHOWINGS = 12;
    private static final int MOST_PAUSE = 20;
    private static final int MOST_GUESTS = 6;
    private static final int JURORS = 3;
    private static final int MOST_POINTS = 10;
    private static final int SETTINGS = 4;
    private static final int MOST_SETTING = 60;
    private static final int MINUTES = 2000;
    private static final int MOST_SAVED = 6;
    private static final int MOST_CODES = 60;

    // The settings.
    private static final int CARRYING = 0;
    private static final int TURNAROUND = 1;
    private static final int GREETING = 2;
    private static final int BETWEEN = 3;

    // The columns of films, showings and guests; showings and guests both begin with the film.
    private static final int REELS = 0;
    private static final int REEL_MINUTES = 1;
    private static final int FILM = 0;
    private static final int SCREEN = 1;
    private static final int START = 2;
    private static final int PAUSE = 3;
    private static final int GOERS = 4;
    private static final int COME = 1;
    private static final int LEAVE = 2;

    // Why a showing is refused, and why a text stops.
    private static final int NOT_REFUSED = 0;
    private static final int TOO_MANY = 1;
    private static final int TOO_LATE = 2;
    private static final int SCREEN_TAKEN = 3;
    private static final int REEL_TAKEN = 4;
    private static final int NO_FILM = 5;

    private final Festival now;
    private final Festival kept;
    private final Festival[] saved;
    private final Reader reader;
    private final int[] codes;
    private boolean hasKept;
    private int savedStates;
    private int codesUsed;

    public ReelScreens() {
        now = new Festival();
        kept = new Festival();
        saved = new Festival[MOST_SAVED];
        for (int i = 0; i < saved.length; i++) {
            saved[i] = new Festival();
        }
        reader = new Reader();
        codes = new int[MOST_CODES];
    }

    // ---- films, screens

    public int film(int reels, int minutes) throws IllegalArgumentException, IllegalStateException {
        requireArgument(isWithin(reels, 1, MOST_REELS)
                && isWithin(minutes, LEAST_REEL_MINUTES, MOST_REEL_MINUTES));
        if (now.films.rows >= MOST_FILMS) {
            throw new IllegalStateException("there are 8 films");
        }
        save();
        return now.addFilm(reels, minutes);
    }

    public int seats(int screen, int seats) throws IndexOutOfBoundsException, IllegalArgumentException {
        requireScreen(screen);
        requireArgument(isWithin(seats, LEAST_SEATS, MOST_SEATS));
        save();
        return now.screens.exchange(screen, 0, seats);
    }

    public int set(int setting, int value) throws IndexOutOfBoundsException, IllegalArgumentException {
        if (!isWithin(setting, 0, SETTINGS - 1)) {
            throw new IndexOutOfBoundsException("there is no such setting");
        }
        requireArgument(isWithin(value, 0, MOST_SETTING));
        save();
        return now.settings.exchange(setting, 0, value);
    }

    // ---- showings

    public int show(int film, int screen, int start, int pause)
            throws IndexOutOfBoundsException, IllegalArgumentException, IllegalStateException {
        requireFilm(film);
        requireScreen(screen);
        requireMinute(start);
        requireArgument(isWithin(pause, 0, MOST_PAUSE));
        requireNotRefused(now.refusal(film, screen, start, pause));
        save();
        return now.addShowing(film, screen, start, pause);
    }

    public int callOff(int showing) throws IndexOutOfBoundsException {
        requireShowing(showing);
        save();
        return now.dropShowing(showing);
    }

    public int move(int showing, int start)
            throws IndexOutOfBoundsException, IllegalArgumentException, IllegalStateException {
        requireShowing(showing);
        requireMinute(start);
        requireNotRefused(now.refusalBeside(now.showings.at(showing, FILM),
                now.showings.at(showing, SCREEN), start, now.showings.at(showing, PAUSE), showing));
        save();
        return now.shift(showing, start);
    }

    // ---- guests, jurors

    public int guest(int film, int come, int leave)
            throws IndexOutOfBoundsException, IllegalArgumentException, IllegalStateException {
        requireFilm(film);
        requireMinute(come);
        requireArgument(leave > come && leave <= MINUTES);
        if (now.guests.rows >= MOST_GUESTS) {
            throw new IllegalStateException("there are 6 guests");
        }
        save();
        return now.addGuest(film, come, leave);
    }

    public int attend(int juror, int showing) throws IndexOutOfBoundsException, IllegalStateException {
        requireJuror(juror);
        requireShowing(showing);
        if (now.goes(juror, showing) || !now.canGo(juror, showing)) {
            throw new IllegalStateException("the juror goes to it already, or cannot");
        }
        save();
        return now.addGoer(juror, showing);
    }

    public int vote(int juror, int film, int points)
            throws IndexOutOfBoundsException, IllegalArgumentException, IllegalStateException {
        requireJuror(juror);
        requireFilm(film);
        requireArgument(isWithin(points, 0, MOST_POINTS));
        if (!hasBit(now.seenBy(film), juror)) {
            throw new IllegalStateException("the juror has not seen the film");
        }
        save();
        return now.jurors.exchange(juror, film, points);
    }

    // ---- texts

    public int append(int code) throws IllegalArgumentException, IllegalStateException {
        requireArgument(isWithin(code, 33, 126));
        if (codesUsed < 0 || codesUsed >= codes.length) {
            throw new IllegalStateException("the buffer has 60 characters");
        }
        codes[codesUsed] = code;
        codesUsed++;
        return codesUsed;
    }

    public int clearBuffer() {
        int length = codesUsed;
        codesUsed = 0;
        return length;
    }

    public int firstError() {
        return readBuffer();
    }

    public int program() throws IllegalArgumentException {
        requireArgument(readBuffer() == codesUsed && reader.isBehindPart());
        save();
        int made = makeShowings();
        codesUsed = 0;
        return made;
    }

    public int stopped(int what) throws IllegalArgumentException {
        requireWhat(what, 2);
        return now.stopNumber(what);
    }

    // ---- undo, the snapshot

    public int undo() throws IllegalStateException {
        if (savedStates <= 0) {
            throw new IllegalStateException("there is no saved state");
        }
        savedStates--;
        if (savedStates < saved.length) {
            copyState(saved[savedStates], now);
        }
        return savedStates;
    }

    public int keep() {
        copyState(now, kept);
        hasKept = true;
        return now.showings.rows;
    }

    public int restore() throws IllegalStateException {
        if (!hasKept) {
            throw new IllegalStateException("there is no snapshot");
        }
        save();
        copyState(kept, now);
        return now.showings.rows;
    }

    // ---- looks; nothing is changed

    public int filmOf(int film, int what) throws IndexOutOfBoundsException, IllegalArgumentException {
        requireFilm(film);
        requireWhat(what, 5);
        return now.filmNumber(film, what);
    }

    public int showing(int showing, int what) throws IndexOutOfBoundsException, IllegalArgumentException {
        requireShowing(showing);
        requireWhat(what, 5);
        return now.showingNumber(showing, what);
    }

    public int reel(int showing, int reel) throws IndexOutOfBoundsException, IllegalArgumentException {
        requireShowing(showing);
        requireArgument(isWithin(reel, 0, MOST_REELS - 1));
        return now.reelBegin(showing, reel);
    }

    public int runs(int screen, int minute) throws IndexOutOfBoundsException, IllegalArgumentException {
        requireScreen(screen);
        requireMinute(minute);
        return now.runningOn(screen, minute);
    }

    public int screen(int screen, int what) throws IndexOutOfBoundsException, IllegalArgumentException {
        requireScreen(screen);
        requireWhat(what, 4);
        return now.screenNumber(screen, what);
    }

    public int guestOf(int guest, int what) throws IndexOutOfBoundsException, IllegalArgumentException {
        if (!isWithin(guest, 0, now.guests.rows - 1)) {
            throw new IndexOutOfBoundsException("there is no such guest");
        }
        requireWhat(what, 3);
        return now.guestNumber(guest, what);
    }

    public int juror(int juror, int what) throws IndexOutOfBoundsException, IllegalArgumentException {
        requireJuror(juror);
        requireWhat(what, 2);
        return now.jurorNumber(juror, what);
    }

    public int count(int what) throws IllegalArgumentException {
        requireWhat(what, 11);
        return countNumber(what);
    }

    // ---- what would be; nothing is changed

    public int whyNot(int film, int screen, int start, int pause, int what)
            throws IndexOutOfBoundsException, IllegalArgumentException {
        requireFilm(film);
        requireScreen(screen);
        requireMinute(start);
        requireArgument(isWithin(pause, 0, MOST_PAUSE));
        requireWhat(what, 2);
        int reason = now.refusal(film, screen, start, pause);
        if (what == 0) {
            return reason;
        }
        int holder = now.inWay(film, screen, start, pause, reason);
        if (what == 1) {
            return holder;
        }
        return reason == REEL_TAKEN ? now.clashingReel(film, start, pause, holder) : NONE;
    }

    public int nextStart(int film, int screen, int from)
            throws IndexOutOfBoundsException, IllegalArgumentException {
        requireFilm(film);
        requireScreen(screen);
        requireMinute(from);
        return now.nextFrom(film, screen, from);
    }

    public int bestScreen(int film, int from) throws IndexOutOfBoundsException, IllegalArgumentException {
        requireFilm(film);
        requireMinute(from);
        return now.bestFrom(film, from);
    }

    public int ifShown(int film, int screen, int start)
            throws IndexOutOfBoundsException, IllegalArgumentException {
        requireFilm(film);
        requireScreen(screen);
        requireMinute(start);
        return now.moreGreeters(film, screen, start);
    }

    public double use(int screen) throws IndexOutOfBoundsException {
        requireScreen(screen);
        return now.share(screen);
    }

    public long digest() {
        long hash = 3727;
        for (int what = 0; what <= 11; what++) {
            hash = 31 * hash + countNumber(what);
        }
        hash = mixFilms(hash);
        hash = mixShowings(hash);
        hash = mixScreens(hash);
        hash = mixPeople(hash);
        return mixTexts(hash);
    }

    private long mixFilms(long before) {
        long hash = before;
        for (int film = 0; film < now.films.rows; film++) {
            for (int what = 0; what <= 5; what++) {
                hash = 31 * hash + now.filmNumber(film, what);
            }
            for (int screen = 0; screen < SCREENS; screen++) {
                hash = 31 * hash + now.nextFrom(film, screen, 0);
            }
            hash = 31 * hash + now.bestFrom(film, 0);
        }
        return hash;
    }

    private long mixShowings(long before) {
        long hash = before;
        for (int showing = 0; showing < now.showings.rows; showing++) {
            for (int what = 0; what <= 5; what++) {
                hash = 31 * hash + now.showingNumber(showing, what);
            }
            for (int reel = 0; reel < MOST_REELS; reel++) {
                hash = 31 * hash + now.reelBegin(showing, reel);
            }
        }
        return hash;
    }

    private long mixScreens(long before) {
        long hash = before;
        for (int screen = 0; screen < SCREENS; screen++) {
            for (int what = 0; what <= 4; what++) {
                hash = 31 * hash + now.screenNumber(screen, what);
            }
            for (int minute = 0; minute < MINUTES; minute += 100) {
                hash = 31 * hash + now.runningOn(screen, minute);
            }
            hash = 31 * hash + bitsOf(now.share(screen));
        }
        return hash;
    }

    private long mixPeople(long before) {
        long hash = before;
        for (int guest = 0; guest < now.guests.rows; guest++) {
            for (int what = 0; what <= 3; what++) {
                hash = 31 * hash + now.guestNumber(guest, what);
            }
        }
        for (int juror = 0; juror < JURORS; juror++) {
            for (int what = 0; what <= 2; what++) {
                hash = 31 * hash + now.jurorNumber(juror, what);
            }
        }
        return hash;
    }

    private long mixTexts(long before) {
        long hash = before;
        for (int what = 0; what <= 2; what++) {
            hash = 31 * hash + now.stopNumber(what);
        }
        hash = 31 * hash + codesUsed;
        for (int i = 0; i < codesUsed && i < codes.length; i++) {
            hash = 31 * hash + codes[i];
        }
        return hash;
    }

    /**
     * The bits of a share, as Double.doubleToLongBits gives them: the language leaves that call out.
     * A share is 0, or from 1/2000 to 1, so its exponent is never below -11.
     */
    private static long bitsOf(double share) {
        if (share <= 0.0) {
            return 0L;
        }
        double part = share;
        long exponent = 1023;
        for (int step = 0; step < 64 && part < 1.0; step++) {
            part = part * 2.0;
            exponent--;
        }
        long mantissa = (long) ((part - 1.0) * 4503599627370496.0);
        return (exponent << 52) | mantissa;
    }

    private int countNumber(int what) {
        switch (what) {
            case 0: return now.films.rows;
            case 1: return now.showings.rows;
            case 2: return now.guests.rows;
            case 3: return now.greeters();
            case 4: return now.allSeats();
            case 5: return now.calledOff;
            case 6: return now.prize();
            case 11: return savedStates;
            default: return now.settings.at(what - 7, 0);
        }
    }

    private void requireFilm(int film) {
        if (!isWithin(film, 0, now.films.rows - 1)) {
            throw new IndexOutOfBoundsException("there is no such film");
        }
    }

    private void requireShowing(int showing) {
        if (!isWithin(showing, 0, now.showings.rows - 1)) {
            throw new IndexOutOfBoundsException("there is no such showing");
        }
    }

    private static void requireScreen(int screen) {
        if (!isWithin(screen, 0, SCREENS - 1)) {
            throw new IndexOutOfBoundsException("there is no such screen");
        }
    }

    private static void requireJuror(int juror) {
        if (!isWithin(juror, 0, JURORS - 1)) {
            throw new IndexOutOfBoundsException("there is no such juror");
        }
    }

    private static void requireMinute(int minute) {
        requireArgument(isWithin(minute, 0, MINUTES - 1));
    }

    private static void requireWhat(int what, int most) {
        requireArgument(isWithin(what, 0, most));
    }

    private static void requireArgument(boolean isRight) {
        if (!isRight) {
            throw new IllegalArgumentException("an argument is out of range");
        }
    }

    private static void requireNotRefused(int reason) {
        if (reason != NOT_REFUSED) {
            throw new IllegalStateException("the showing is refused");
        }
    }

    private static boolean isWithin(int value, int least, int most) {
        return value >= least && value <= most;
    }

    private static boolean hasBit(int mask, int bit) {
        return (mask >> bit & 1) == 1;
    }

    /** Saves the state ahead of a change, in the rows of the oldest one when all are taken. */
    private void save() {
        if (savedStates >= saved.length) {
            dropOldest();
        }
        if (savedStates >= 0 && savedStates < saved.length) {
            copyState(now, saved[savedStates]);
            savedStates++;
        }
    }

    private void dropOldest() {
        if (saved.length == 0) {
            return;
        }
        Festival oldest = saved[0];
        for (int i = 1; i < saved.length; i++) {
            saved[i - 1] = saved[i];
        }
        saved[saved.length - 1] = oldest;
        savedStates = saved.length - 1;
    }

    private static void copyState(Festival from, Festival to) {
        if (from != null && to != null) {
            to.take(from);
        }
    }

    /** Reads the buffer up to its first syntax error, or its end, and returns where that is. */
    private int readBuffer() {
        reader.startPart();
        for (int i = 0; i < codesUsed && i < codes.length; i++) {
            if (!reader.takeCode(codes[i])) {
                return i;
            }
        }
        return codesUsed;
    }

    /** Makes the showings of a buffer that is known to be complete, up to the first stop. */
    private int makeShowings() {
        now.setStop(NONE, NONE, NONE);
        reader.startPart();
        int made = 0;
        for (int i = 0; i <= codesUsed && i <= codes.length; i++) {
            boolean atEnd = i >= codesUsed || i >= codes.length;
            if (atEnd || codes[i] == ';') {
                if (!makePart(made)) {
                    return made;
                }
                made++;
            }
            if (!atEnd) {
                reader.takeCode(codes[i]);
            }
        }
        return made;
    }

    private boolean makePart(int part) {
        if (reader.film >= now.films.rows) {
            now.setStop(part, NO_FILM, NONE);
            return false;
        }
        int reason = now.refusal(reader.film, reader.screen, reader.start, reader.pause);
        if (reason != NOT_REFUSED) {
            now.setStop(part, reason,
                    now.inWay(reader.film, reader.screen, reader.start, reader.pause, reason));
            return false;
        }
        now.addShowing(reader.film, reader.screen, reader.start, reader.pause);
        return true;
    }

    /**
     * Rows of numbers, all made at first and used again. Every place is tested here: one that is
     * not there reads as 0 and takes nothing.
     */
    private static final class Table {
        private final int columns;
        private final int[] cells;
        int rows;

        Table(int mostRows, int columns) {
            this.columns = columns;
            this.cells = new int[Math.max(0, mostRows * columns)];
        }

        int at(int row, int column) {
            if (row < 0 || row >= rows || column < 0 || column >= columns) {
                return 0;
            }
            int place = row * columns + column;
            return place >= 0 && place < cells.length ? cells[place] : 0;
        }

        void put(int row, int column, int value) {
            if (row < 0 || row >= rows || column < 0 || column >= columns) {
                return;
            }
            int place = row * columns + column;
            if (place >= 0 && place < cells.length) {
                cells[place] = value;
            }
        }

        int exchange(int row, int column, int value) {
            int before = at(row, column);
            put(row, column, value);
            return before;
        }

        /** Adds a row, whose cells are to be put then, and returns its number. */
        int addRow() {
            if ((rows + 1) * columns > cells.length) {
                return NONE;
            }
            rows++;
            return rows - 1;
        }

        void dropRow(int row) {
            if (row < 0 || row >= rows) {
                return;
            }
            for (int into = row; into + 1 < rows; into++) {
                for (int column = 0; column < columns; column++) {
                    put(into, column, at(into + 1, column));
                }
            }
            rows--;
        }

        void takeRows(Table other) {
            if (other.cells.length == cells.length) {
                System.arraycopy(other.cells, 0, cells, 0, cells.length);
                rows = other.rows;
            }
        }
    }

    /** One state of the festival: what a saved state and the snapshot hold too. */
    private static final class Festival {
        final Table films = new Table(MOST_FILMS, 2);
        final Table screens = new Table(SCREENS, 1);
        final Table settings = new Table(SETTINGS, 1);
        final Table showings = new Table(MOST_SHOWINGS, 5);
        final Table guests = new Table(MOST_GUESTS, 3);
        final Table jurors = new Table(JURORS, MOST_FILMS);
        int calledOff;
        private int stopPart = NONE;
        private int stopReason = NONE;
        private int stopShowing = NONE;

        Festival() {
            for (int screen = 0; screen < SCREENS; screen++) {
                screens.put(screens.addRow(), 0, 100 * (screen + 1));
            }
            for (int juror = 0; juror < JURORS; juror++) {
                jurors.addRow();
            }
            for (int setting = 0; setting < SETTINGS; setting++) {
                settings.addRow();
            }
            settings.put(CARRYING, 0, 10);
            settings.put(TURNAROUND, 0, 15);
            settings.put(GREETING, 0, 10);
            settings.put(BETWEEN, 0, 5);
        }

        void take(Festival other) {
            films.takeRows(other.films);
            screens.takeRows(other.screens);
            settings.takeRows(other.settings);
            showings.takeRows(other.showings);
            guests.takeRows(other.guests);
            jurors.takeRows(other.jurors);
            calledOff = other.calledOff;
            stopPart = other.stopPart;
            stopReason = other.stopReason;
            stopShowing = other.stopShowing;
        }

        int addFilm(int reels, int minutes) {
            int film = films.addRow();
            films.put(film, REELS, reels);
            films.put(film, REEL_MINUTES, minutes);
            return film;
        }

        int addShowing(int film, int screen, int start, int pause) {
            int showing = showings.addRow();
            showings.put(showing, FILM, film);
            showings.put(showing, SCREEN, screen);
            showings.put(showing, START, start);
            showings.put(showing, PAUSE, pause);
            showings.put(showing, GOERS, 0);
            return showing;
        }

        int addGuest(int film, int come, int leave) {
            int guest = guests.addRow();
            guests.put(guest, FILM, film);
            guests.put(guest, COME, come);
            guests.put(guest, LEAVE, leave);
            return guest;
        }

        int dropShowing(int showing) {
            int goers = Integer.bitCount(showings.at(showing, GOERS));
            showings.dropRow(showing);
            calledOff++;
            return goers;
        }

        /** Moves a showing, and returns how many jurors can go to it no more. */
        int shift(int showing, int start) {
            showings.put(showing, START, start);
            int lost = 0;
            for (int juror = 0; juror < JURORS; juror++) {
                if (goes(juror, showing) && !canGo(juror, showing)) {
                    showings.put(showing, GOERS, showings.at(showing, GOERS) & ~(1 << juror));
                    lost++;
                }
            }
            return lost;
        }

        /** Lets a juror go to a showing, and returns to how many the juror goes then. */
        int addGoer(int juror, int showing) {
            showings.put(showing, GOERS, showings.at(showing, GOERS) | 1 << juror);
            return visitsOf(juror);
        }

        boolean goes(int juror, int showing) {
            return hasBit(showings.at(showing, GOERS), juror);
        }

        /** Whether a juror's other showings leave room for this one. */
        boolean canGo(int juror, int showing) {
            int start = showings.at(showing, START);
            int end = endOf(showing);
            int gap = settings.at(BETWEEN, 0);
            for (int other = 0; other < showings.rows; other++) {
                if (other != showing && goes(juror, other)
                        && areTooClose(start, end, showings.at(other, START), endOf(other), gap)) {
                    return false;
                }
            }
            return true;
        }

        int lengthOf(int film) {
            return films.at(film, REELS) * films.at(film, REEL_MINUTES);
        }

        int endOf(int showing) {
            int film = showings.at(showing, FILM);
            return showings.at(showing, START) + films.at(film, REELS) * films.at(film, REEL_MINUTES)
                    + showings.at(showing, PAUSE);
        }

        /** The minute at which a reel begins in a showing, NONE if its film has not so many. */
        int reelBegin(int showing, int reel) {
            int film = showings.at(showing, FILM);
            int reels = films.at(film, REELS);
            if (reel >= reels) {
                return NONE;
            }
            return beginIn(showings.at(showing, START), showings.at(showing, PAUSE), reels,
                    films.at(film, REEL_MINUTES), reel);
        }

        private static int beginIn(int start, int pause, int reels, int minutes, int reel) {
            int ahead = start + reel * minutes;
            return reel < (reels + 1) / 2 ? ahead : ahead + pause;
        }

        /** Whether two times share a minute, or have less than the gap between them. */
        private static boolean areTooClose(int start, int end, int otherStart, int otherEnd, int gap) {
            return start < otherEnd + gap && otherStart < end + gap;
        }

        int refusal(int film, int screen, int start, int pause) {
            if (showings.rows >= MOST_SHOWINGS) {
                return TOO_MANY;
            }
            return refusalBeside(film, screen, start, pause, NONE);
        }

        /** The reason 2 to 4 against a showing, as if the one left out was not there. */
        int refusalBeside(int film, int screen, int start, int pause, int leftOut) {
            int end = start + lengthOf(film) + pause;
            if (end > MINUTES) {
                return TOO_LATE;
            }
            if (takingScreen(screen, start, end, leftOut) != NONE) {
                return SCREEN_TAKEN;
            }
            if (takingReel(film, screen, start, pause, leftOut) != NONE) {
                return REEL_TAKEN;
            }
            return NOT_REFUSED;
        }

        /** The lowest showing that stands in the way by a reason, NONE if it is not 3 or 4. */
        int inWay(int film, int screen, int start, int pause, int reason) {
            if (reason == SCREEN_TAKEN) {
                return takingScreen(screen, start, start + lengthOf(film) + pause, NONE);
            }
            if (reason == REEL_TAKEN) {
                return takingReel(film, screen, start, pause, NONE);
            }
            return NONE;
        }

        private int takingScreen(int screen, int start, int end, int leftOut) {
            int gap = settings.at(TURNAROUND, 0);
            for (int other = 0; other < showings.rows; other++) {
                if (other != leftOut && showings.at(other, SCREEN) == screen
                        && areTooClose(start, end, showings.at(other, START), endOf(other), gap)) {
                    return other;
                }
            }
            return NONE;
        }

        private int takingReel(int film, int screen, int start, int pause, int leftOut) {
            for (int other = 0; other < showings.rows; other++) {
                if (other != leftOut && showings.at(other, FILM) == film
                        && showings.at(other, SCREEN) != screen
                        && clashingReel(film, start, pause, other) != NONE) {
                    return other;
                }
            }
            return NONE;
        }

        /** The lowest reel that another showing of the film holds too near to its time here. */
        int clashingReel(int film, int start, int pause, int other) {
            int reels = films.at(film, REELS);
            int minutes = films.at(film, REEL_MINUTES);
            int otherStart = showings.at(other, START);
            int otherPause = showings.at(other, PAUSE);
            int gap = settings.at(CARRYING, 0);
            for (int reel = 0; reel < reels; reel++) {
                int here = beginIn(start, pause, reels, minutes, reel);
                int there = beginIn(otherStart, otherPause, reels, minutes, reel);
                if (areTooClose(here, here + minutes, there, there + minutes, gap)) {
                    return reel;
                }
            }
            return NONE;
        }

        /**
         * The first start that is not refused. All starts up to the one behind what stands in the
         * way are refused for the same showing or reel, so they are passed over at once.
         */
        int nextFrom(int film, int screen, int from) {
            if (showings.rows >= MOST_SHOWINGS) {
                return NONE;
            }
            int length = lengthOf(film);
            int start = from;
            for (int step = 0; step < MINUTES && start + length <= MINUTES; step++) {
                int other = takingScreen(screen, start, start + length, NONE);
                if (other != NONE) {
                    start = endOf(other) + settings.at(TURNAROUND, 0);
                    continue;
                }
                other = takingReel(film, screen, start, 0, NONE);
                if (other == NONE) {
                    return start;
                }
                int reel = clashingReel(film, start, 0, other);
                start = reelBegin(other, reel) + settings.at(CARRYING, 0)
                        + (1 - reel) * films.at(film, REEL_MINUTES);
            }
            return NONE;
        }

        int bestFrom(int film, int from) {
            int best = NONE;
            int bestStart = NONE;
            for (int screen = 0; screen < SCREENS; screen++) {
                int start = nextFrom(film, screen, from);
                if (start == NONE) {
                    continue;
                }
                if (best == NONE || start < bestStart
                        || start == bestStart && screens.at(screen, 0) > screens.at(best, 0)) {
                    best = screen;
                    bestStart = start;
                }
            }
            return best;
        }

        /** How many who greet behind no showing would greet behind this one, NONE if it is refused. */
        int moreGreeters(int film, int screen, int start) {
            if (refusal(film, screen, start, 0) != NOT_REFUSED) {
                return NONE;
            }
            int more = 0;
            for (int guest = 0; guest < guests.rows; guest++) {
                if (guests.at(guest, FILM) == film && fits(guest, start + lengthOf(film))
                        && greetedBy(guest) == NONE) {
                    more++;
                }
            }
            return more;
        }

        private boolean fits(int guest, int end) {
            return end >= guests.at(guest, COME)
                    && end + settings.at(GREETING, 0) <= guests.at(guest, LEAVE);
        }

        /** The showing behind which a guest greets, NONE without one. */
        private int greetedBy(int guest) {
            int first = NONE;
            int firstEnd = NONE;
            for (int showing = 0; showing < showings.rows; showing++) {
                int end = endOf(showing);
                if (showings.at(showing, FILM) == guests.at(guest, FILM) && fits(guest, end)
                        && (first == NONE || end < firstEnd)) {
                    first = showing;
                    firstEnd = end;
                }
            }
            return first;
        }

        int greeters() {
            int greeting = 0;
            for (int guest = 0; guest < guests.rows; guest++) {
                if (greetedBy(guest) != NONE) {
                    greeting++;
                }
            }
            return greeting;
        }

        int allSeats() {
            int sum = 0;
            for (int showing = 0; showing < showings.rows; showing++) {
                sum += screens.at(showings.at(showing, SCREEN), 0);
            }
            return sum;
        }

        /** A mask of the jurors who have seen a film. */
        int seenBy(int film) {
            int mask = 0;
            for (int showing = 0; showing < showings.rows; showing++) {
                if (showings.at(showing, FILM) == film) {
                    mask |= showings.at(showing, GOERS);
                }
            }
            return mask;
        }

        private int pointsOf(int film) {
            int seers = seenBy(film);
            int sum = 0;
            for (int juror = 0; juror < JURORS; juror++) {
                if (hasBit(seers, juror)) {
                    sum += jurors.at(juror, film);
                }
            }
            return sum;
        }

        int prize() {
            int best = NONE;
            int bestPoints = NONE;
            for (int film = 0; film < films.rows; film++) {
                if (Integer.bitCount(seenBy(film)) >= 2 && pointsOf(film) > bestPoints) {
                    best = film;
                    bestPoints = pointsOf(film);
                }
            }
            return best;
        }

        int filmNumber(int film, int what) {
            switch (what) {
                case 0: return films.at(film, REELS);
                case 1: return films.at(film, REEL_MINUTES);
                case 2: return showingsWith(FILM, film);
                case 3: return seatsFor(film);
                case 4: return seenBy(film);
                default: return pointsOf(film);
            }
        }

        private int showingsWith(int column, int value) {
            int number = 0;
            for (int showing = 0; showing < showings.rows; showing++) {
                if (showings.at(showing, column) == value) {
                    number++;
                }
            }
            return number;
        }

        private int seatsFor(int film) {
            int sum = 0;
            for (int showing = 0; showing < showings.rows; showing++) {
                if (showings.at(showing, FILM) == film) {
                    sum += screens.at(showings.at(showing, SCREEN), 0);
                }
            }
            return sum;
        }

        int showingNumber(int showing, int what) {
            switch (what) {
                case 0: return showings.at(showing, FILM);
                case 1: return showings.at(showing, SCREEN);
                case 2: return showings.at(showing, START);
                case 3: return endOf(showing);
                case 4: return showings.at(showing, PAUSE);
                default: return showings.at(showing, GOERS);
            }
        }

        /** 6 times the film and the reel that runs on a screen, NONE if none does. */
        int runningOn(int screen, int minute) {
            for (int showing = 0; showing < showings.rows; showing++) {
                if (showings.at(showing, SCREEN) == screen) {
                    int reel = reelAt(showing, minute);
                    if (reel != NONE) {
                        return MOST_REELS * showings.at(showing, FILM) + reel;
                    }
                }
            }
            return NONE;
        }

        private int reelAt(int showing, int minute) {
            int film = showings.at(showing, FILM);
            int reels = films.at(film, REELS);
            int minutes = films.at(film, REEL_MINUTES);
            int start = showings.at(showing, START);
            int pause = showings.at(showing, PAUSE);
            for (int reel = 0; reel < reels; reel++) {
                int begin = beginIn(start, pause, reels, minutes, reel);
                if (minute >= begin && minute < begin + minutes) {
                    return reel;
                }
            }
            return NONE;
        }

        int screenNumber(int screen, int what) {
            switch (what) {
                case 0: return screens.at(screen, 0);
                case 1: return showingsWith(SCREEN, screen);
                case 2: return reckonedMinutes(screen);
                case 3: return countedMinutes(screen);
                default: return lastEnd(screen);
            }
        }

        private int reckonedMinutes(int screen) {
            int sum = 0;
            for (int showing = 0; showing < showings.rows; showing++) {
                if (showings.at(showing, SCREEN) == screen) {
                    sum += lengthOf(showings.at(showing, FILM));
                }
            }
            return sum;
        }

        /** Only the minutes of showings are looked at: no minute has two showings on a screen. */
        private int countedMinutes(int screen) {
            int counted = 0;
            for (int showing = 0; showing < showings.rows; showing++) {
                if (showings.at(showing, SCREEN) != screen) {
                    continue;
                }
                int end = endOf(showing);
                for (int minute = showings.at(showing, START); minute < end && minute < MINUTES; minute++) {
                    if (reelAt(showing, minute) != NONE) {
                        counted++;
                    }
                }
            }
            return counted;
        }

        private int lastEnd(int screen) {
            int last = NONE;
            for (int showing = 0; showing < showings.rows; showing++) {
                if (showings.at(showing, SCREEN) == screen) {
                    last = Math.max(last, endOf(showing));
                }
            }
            return last;
        }

        double share(int screen) {
            return (double) reckonedMinutes(screen) / 2000.0;
        }

        int guestNumber(int guest, int what) {
            switch (what) {
                case 0: return guests.at(guest, FILM);
                case 1: return guests.at(guest, COME);
                case 2: return guests.at(guest, LEAVE);
                default: return greetedBy(guest);
            }
        }

        int jurorNumber(int juror, int what) {
            switch (what) {
                case 0: return visitsOf(juror);
                case 1: return seenMask(juror);
                default: return pointsFrom(juror);
            }
        }

        private int visitsOf(int juror) {
            int visits = 0;
            for (int showing = 0; showing < showings.rows; showing++) {
                if (goes(juror, showing)) {
                    visits++;
                }
            }
            return visits;
        }

        private int seenMask(int juror) {
            int mask = 0;
            for (int showing = 0; showing < showings.rows; showing++) {
                if (goes(juror, showing)) {
                    mask |= 1 << showings.at(showing, FILM);
                }
            }
            return mask;
        }

        private int pointsFrom(int juror) {
            int seen = seenMask(juror);
            int sum = 0;
            for (int film = 0; film < films.rows; film++) {
                if (hasBit(seen, film)) {
                    sum += jurors.at(juror, film);
                }
            }
            return sum;
        }

        void setStop(int part, int reason, int showing) {
            stopPart = part;
            stopReason = reason;
            stopShowing = showing;
        }

        int stopNumber(int what) {
            switch (what) {
                case 0: return stopPart;
                case 1: return stopReason;
                default: return stopShowing;
            }
        }
    }

    /** Reads showings as a text, a character at a time; holds the numbers of the latest part. */
    private static final class Reader {
        private static final int AT_FILM = 0;
        private static final int AT_SLASH = 1;
        private static final int AT_SCREEN = 2;
        private static final int AT_SIGN = 3;
        private static final int AT_START = 4;
        private static final int IN_START = 5;
        private static final int AT_PAUSE = 6;
        private static final int IN_PAUSE = 7;

        int film;
        int screen;
        int start;
        int pause;
        private int place;

        void startPart() {
            pause = 0;
            place = AT_FILM;
        }

        /** Whether what is read so far is complete. */
        boolean isBehindPart() {
            return place == IN_START || place == IN_PAUSE;
        }

        /** Takes the next character; false if it is a syntax error. */
        boolean takeCode(int code) {
            int digit = code - '0';
            switch (place) {
                case AT_FILM:
                    film = digit;
                    return advance(isWithin(digit, 0, MOST_FILMS - 1), AT_SLASH);
                case AT_SLASH:
                    return advance(code == '/', AT_SCREEN);
                case AT_SCREEN:
                    screen = digit;
                    return advance(isWithin(digit, 0, SCREENS - 1), AT_SIGN);
                case AT_SIGN:
                    return advance(code == '@', AT_START);
                case AT_START:
                    start = digit;
                    return advance(isWithin(digit, 0, 9), IN_START);
                case IN_START:
                    return takeBehindStart(code, digit);
                case AT_PAUSE:
                    pause = digit;
                    return advance(isWithin(digit, 0, 9), IN_PAUSE);
                default:
                    return takeBehindPause(code, digit);
            }
        }

        private boolean advance(boolean isRight, int next) {
            place = next;
            return isRight;
        }

        private boolean takeBehindStart(int code, int digit) {
            if (code == '+') {
                place = AT_PAUSE;
                return true;
            }
            if (code == ';') {
                startPart();
                return true;
            }
            boolean goesOn = isLonger(start, digit, MINUTES - 1);
            start = start * 10 + digit;
            return goesOn;
        }

        private boolean takeBehindPause(int code, int digit) {
            if (code == ';') {
                startPart();
                return true;
            }
            boolean goesOn = isLonger(pause, digit, MOST_PAUSE);
            pause = pause * 10 + digit;
            return goesOn;
        }

        /** Whether a digit may come behind a number: behind 0 it may not. */
        private static boolean isLonger(int number, int digit, int most) {
            return number > 0 && isWithin(digit, 0, 9) && number * 10 + digit <= most;
        }
    }
}
