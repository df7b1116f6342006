import java.util.ArrayList;
import java.util.List;

/**
 * The document told a second time, in another way: lists, deep copies, times compared minute by
 * minute, starts tried one by one. Slow, and used as the measure in RandomRuns. A method throws what
 * the document says, by the kinds of Check.
 */
final class PlainModel {
    static final class Film {
        int reels;
        int minutes;
    }

    static final class Showing {
        Film film;
        int filmNumber;
        int screen;
        int start;
        int pause;
        List<Integer> jurors = new ArrayList<>();

        Showing copy() {
            Showing other = new Showing();
            other.film = film;
            other.filmNumber = filmNumber;
            other.screen = screen;
            other.start = start;
            other.pause = pause;
            other.jurors = new ArrayList<>(jurors);
            return other;
        }

        int end() {
            return start + film.reels * film.minutes + pause;
        }

        /** Goes through the showing from the start, reel by reel. */
        int begin(int wanted) {
            int minute = start;
            int half = film.reels - film.reels / 2;
            for (int reel = 0; reel < film.reels; reel++) {
                if (reel == half) {
                    minute += pause;
                }
                if (reel == wanted) {
                    return minute;
                }
                minute += film.minutes;
            }
            return -1;
        }
    }

    static final class State {
        List<Film> films = new ArrayList<>();
        int[] seats = {100, 200, 300};
        int[] settings = {10, 15, 10, 5};
        List<Showing> showings = new ArrayList<>();
        List<int[]> guests = new ArrayList<>();
        int[][] points = new int[3][8];
        int calledOff;
        int[] stop = {-1, -1, -1};

        State copy() {
            State other = new State();
            other.films = new ArrayList<>(films);
            other.seats = seats.clone();
            other.settings = settings.clone();
            for (Showing s : showings) {
                other.showings.add(s.copy());
            }
            other.guests = new ArrayList<>(guests);
            for (int j = 0; j < 3; j++) {
                other.points[j] = points[j].clone();
            }
            other.calledOff = calledOff;
            other.stop = stop.clone();
            return other;
        }
    }

    State now = new State();
    State kept;
    List<State> saved = new ArrayList<>();
    StringBuilder buffer = new StringBuilder();

    private void save() {
        saved.add(now.copy());
        if (saved.size() > 6) {
            saved.remove(0);
        }
    }

    private static void index(boolean ok) {
        if (!ok) {
            throw new IndexOutOfBoundsException();
        }
    }

    private static void argument(boolean ok) {
        if (!ok) {
            throw new IllegalArgumentException();
        }
    }

    private static void state(boolean ok) {
        if (!ok) {
            throw new IllegalStateException();
        }
    }

    private static boolean in(int value, int least, int most) {
        return value >= least && value <= most;
    }

    private boolean isFilm(int film) {
        return film >= 0 && film < now.films.size();
    }

    private boolean isShowing(int showing) {
        return showing >= 0 && showing < now.showings.size();
    }

    int film(int reels, int minutes) {
        argument(in(reels, 1, 6) && in(minutes, 10, 25));
        state(now.films.size() != 8);
        save();
        Film f = new Film();
        f.reels = reels;
        f.minutes = minutes;
        now.films.add(f);
        return now.films.size() - 1;
    }

    int seats(int screen, int seats) {
        index(in(screen, 0, 2));
        argument(in(seats, 50, 400));
        save();
        int before = now.seats[screen];
        now.seats[screen] = seats;
        return before;
    }

    int set(int setting, int value) {
        index(in(setting, 0, 3));
        argument(in(value, 0, 60));
        save();
        int before = now.settings[setting];
        now.settings[setting] = value;
        return before;
    }

    private Showing plan(int film, int screen, int start, int pause) {
        Showing s = new Showing();
        s.film = now.films.get(film);
        s.filmNumber = film;
        s.screen = screen;
        s.start = start;
        s.pause = pause;
        return s;
    }

    /** By the words: they share a minute, or too few minutes lie between them. */
    private static boolean near(int start, int end, int otherStart, int otherEnd, int gap) {
        for (int minute = start; minute < end; minute++) {
            if (minute >= otherStart && minute < otherEnd) {
                return true;
            }
        }
        boolean otherIsAhead = otherEnd <= start;
        return otherIsAhead ? start - otherEnd < gap : otherStart - end < gap;
    }

    private int nearReel(Showing plan, Showing other) {
        for (int reel = 0; reel < plan.film.reels; reel++) {
            int here = plan.begin(reel);
            int there = other.begin(reel);
            int minutes = plan.film.minutes;
            if (near(here, here + minutes, there, there + minutes, now.settings[0])) {
                return reel;
            }
        }
        return -1;
    }

    /** The reason, the lowest showing in the way, and the lowest reel with it. */
    private int[] refusal(Showing plan, Showing leftOut) {
        if (leftOut == null && now.showings.size() == 12) {
            return new int[] {1, -1, -1};
        }
        if (plan.end() > 2000) {
            return new int[] {2, -1, -1};
        }
        for (int i = 0; i < now.showings.size(); i++) {
            Showing s = now.showings.get(i);
            if (s != leftOut && s.screen == plan.screen
                    && near(plan.start, plan.end(), s.start, s.end(), now.settings[1])) {
                return new int[] {3, i, -1};
            }
        }
        for (int i = 0; i < now.showings.size(); i++) {
            Showing s = now.showings.get(i);
            if (s != leftOut && s.screen != plan.screen && s.filmNumber == plan.filmNumber
                    && nearReel(plan, s) >= 0) {
                return new int[] {4, i, nearReel(plan, s)};
            }
        }
        return new int[] {0, -1, -1};
    }

    int show(int film, int screen, int start, int pause) {
        index(isFilm(film) && in(screen, 0, 2));
        argument(in(start, 0, 1999) && in(pause, 0, 20));
        Showing s = plan(film, screen, start, pause);
        state(refusal(s, null)[0] == 0);
        save();
        now.showings.add(s);
        return now.showings.size() - 1;
    }

    int callOff(int showing) {
        index(isShowing(showing));
        save();
        now.calledOff++;
        return now.showings.remove(showing).jurors.size();
    }

    int move(int showing, int start) {
        index(isShowing(showing));
        argument(in(start, 0, 1999));
        Showing old = now.showings.get(showing);
        state(refusal(plan(old.filmNumber, old.screen, start, old.pause), old)[0] == 0);
        save();
        Showing s = now.showings.get(showing);
        s.start = start;
        List<Integer> left = new ArrayList<>();
        for (int juror : s.jurors) {
            if (isFree(juror, s)) {
                left.add(juror);
            }
        }
        int lost = s.jurors.size() - left.size();
        s.jurors = left;
        return lost;
    }

    private boolean isFree(int juror, Showing wanted) {
        for (Showing s : now.showings) {
            if (s != wanted && s.jurors.contains(juror)
                    && near(wanted.start, wanted.end(), s.start, s.end(), now.settings[3])) {
                return false;
            }
        }
        return true;
    }

    int guest(int film, int come, int leave) {
        index(isFilm(film));
        argument(in(come, 0, 1999) && in(leave, come + 1, 2000));
        state(now.guests.size() < 6);
        save();
        now.guests.add(new int[] {film, come, leave});
        return now.guests.size() - 1;
    }

    int attend(int juror, int showing) {
        index(in(juror, 0, 2) && isShowing(showing));
        Showing s = now.showings.get(showing);
        state(!s.jurors.contains(juror) && isFree(juror, s));
        save();
        now.showings.get(showing).jurors.add(juror);
        return juror(juror, 0);
    }

    private boolean hasSeen(int juror, int film) {
        for (Showing s : now.showings) {
            if (s.filmNumber == film && s.jurors.contains(juror)) {
                return true;
            }
        }
        return false;
    }

    int vote(int juror, int film, int points) {
        index(in(juror, 0, 2) && isFilm(film));
        argument(in(points, 0, 10));
        state(hasSeen(juror, film));
        save();
        int before = now.points[juror][film];
        now.points[juror][film] = points;
        return before;
    }

    int append(int code) {
        argument(in(code, 33, 126));
        state(buffer.length() < 60);
        buffer.append((char) code);
        return buffer.length();
    }

    int clearBuffer() {
        int length = buffer.length();
        buffer.setLength(0);
        return length;
    }

    private static boolean isWhole(String part) {
        return part.matches("[0-7]/[0-2]@(0|[1-9][0-9]{0,2}|1[0-9]{3})([+](0|[1-9]|1[0-9]|20))?");
    }

    /** Whether some number up to the most begins with these digits. */
    private static boolean begins(String digits, int most) {
        for (int number = 0; number <= most; number++) {
            if (String.valueOf(number).startsWith(digits)) {
                return true;
            }
        }
        return false;
    }

    private static boolean canGoOn(String text) {
        String[] parts = text.split(";", -1);
        for (int i = 0; i < parts.length - 1; i++) {
            if (!isWhole(parts[i])) {
                return false;
            }
        }
        String last = parts[parts.length - 1];
        if (last.length() <= 4) {
            return isWhole(last + "0/0@0".substring(last.length()));
        }
        int plus = last.indexOf('+');
        String head = last.substring(0, 4);
        if (plus < 0) {
            return isWhole(head + "0") && begins(last.substring(4), 1999);
        }
        return isWhole(last.substring(0, plus)) && begins(last.substring(plus + 1), 20);
    }

    int firstError() {
        for (int i = 0; i < buffer.length(); i++) {
            if (!canGoOn(buffer.substring(0, i + 1))) {
                return i;
            }
        }
        return buffer.length();
    }

    int program() {
        String[] parts = buffer.toString().split(";", -1);
        for (String part : parts) {
            argument(isWhole(part));
        }
        save();
        buffer.setLength(0);
        now.stop = new int[] {-1, -1, -1};
        for (int i = 0; i < parts.length; i++) {
            String[] words = parts[i].split("[/@+]");
            int film = Integer.parseInt(words[0]);
            if (!isFilm(film)) {
                now.stop = new int[] {i, 5, -1};
                return i;
            }
            Showing s = plan(film, Integer.parseInt(words[1]), Integer.parseInt(words[2]),
                    words.length > 3 ? Integer.parseInt(words[3]) : 0);
            int[] why = refusal(s, null);
            if (why[0] != 0) {
                now.stop = new int[] {i, why[0], why[1]};
                return i;
            }
            now.showings.add(s);
        }
        return parts.length;
    }

    int stopped(int what) {
        argument(in(what, 0, 2));
        return now.stop[what];
    }

    int undo() {
        state(!saved.isEmpty());
        now = saved.remove(saved.size() - 1);
        return saved.size();
    }

    int keep() {
        kept = now.copy();
        return now.showings.size();
    }

    int restore() {
        state(kept != null);
        save();
        now = kept.copy();
        return now.showings.size();
    }

    int filmOf(int film, int what) {
        index(isFilm(film));
        argument(in(what, 0, 5));
        int showings = 0;
        int seats = 0;
        for (Showing s : now.showings) {
            if (s.filmNumber == film) {
                showings++;
                seats += now.seats[s.screen];
            }
        }
        int mask = 0;
        int points = 0;
        for (int j = 0; j < 3; j++) {
            if (hasSeen(j, film)) {
                mask += 1 << j;
                points += now.points[j][film];
            }
        }
        Film f = now.films.get(film);
        return new int[] {f.reels, f.minutes, showings, seats, mask, points}[what];
    }

    int showing(int showing, int what) {
        index(isShowing(showing));
        argument(in(what, 0, 5));
        Showing s = now.showings.get(showing);
        int mask = 0;
        for (int juror : s.jurors) {
            mask += 1 << juror;
        }
        return new int[] {s.filmNumber, s.screen, s.start, s.end(), s.pause, mask}[what];
    }

    int reel(int showing, int reel) {
        index(isShowing(showing));
        argument(in(reel, 0, 5));
        return now.showings.get(showing).begin(reel);
    }

    int runs(int screen, int minute) {
        index(in(screen, 0, 2));
        argument(in(minute, 0, 1999));
        for (Showing s : now.showings) {
            for (int reel = 0; reel < s.film.reels && s.screen == screen; reel++) {
                if (in(minute, s.begin(reel), s.begin(reel) + s.film.minutes - 1)) {
                    return 6 * s.filmNumber + reel;
                }
            }
        }
        return -1;
    }

    int screen(int screen, int what) {
        index(in(screen, 0, 2));
        argument(in(what, 0, 4));
        int showings = 0;
        int reckoned = 0;
        int last = -1;
        for (Showing s : now.showings) {
            if (s.screen == screen) {
                showings++;
                reckoned += s.film.reels * s.film.minutes;
                last = s.end() > last ? s.end() : last;
            }
        }
        int counted = 0;
        for (int minute = 0; minute < 2000 && what == 3; minute++) {
            counted += runs(screen, minute) >= 0 ? 1 : 0;
        }
        return new int[] {now.seats[screen], showings, reckoned, counted, last}[what];
    }

    private boolean greetsAt(int[] guest, Showing s) {
        return s.filmNumber == guest[0] && s.end() >= guest[1] && s.end() + now.settings[2] <= guest[2];
    }

    int guestOf(int guest, int what) {
        index(guest >= 0 && guest < now.guests.size());
        argument(in(what, 0, 3));
        int[] g = now.guests.get(guest);
        if (what < 3) {
            return g[what];
        }
        for (int end = 0; end <= 2000; end++) {
            for (int i = 0; i < now.showings.size(); i++) {
                if (now.showings.get(i).end() == end && greetsAt(g, now.showings.get(i))) {
                    return i;
                }
            }
        }
        return -1;
    }

    int juror(int juror, int what) {
        index(in(juror, 0, 2));
        argument(in(what, 0, 2));
        int visits = 0;
        for (Showing s : now.showings) {
            visits += s.jurors.contains(juror) ? 1 : 0;
        }
        int mask = 0;
        int points = 0;
        for (int f = 0; f < now.films.size(); f++) {
            if (hasSeen(juror, f)) {
                mask += 1 << f;
                points += now.points[juror][f];
            }
        }
        return new int[] {visits, mask, points}[what];
    }

    int count(int what) {
        argument(in(what, 0, 11));
        if (what >= 7 && what <= 10) {
            return now.settings[what - 7];
        }
        int number = 0;
        switch (what) {
            case 0: return now.films.size();
            case 1: return now.showings.size();
            case 2: return now.guests.size();
            case 3:
                for (int g = 0; g < now.guests.size(); g++) {
                    number += guestOf(g, 3) >= 0 ? 1 : 0;
                }
                return number;
            case 4:
                for (Showing s : now.showings) {
                    number += now.seats[s.screen];
                }
                return number;
            case 5: return now.calledOff;
            case 6: return prize();
            default: return saved.size();
        }
    }

    private int prize() {
        for (int points = 30; points >= 0; points--) {
            for (int f = 0; f < now.films.size(); f++) {
                int mask = filmOf(f, 4);
                boolean isSeenByTwo = mask == 3 || mask == 5 || mask == 6 || mask == 7;
                if (isSeenByTwo && filmOf(f, 5) == points) {
                    return f;
                }
            }
        }
        return -1;
    }

    int whyNot(int film, int screen, int start, int pause, int what) {
        index(isFilm(film) && in(screen, 0, 2));
        argument(in(start, 0, 1999) && in(pause, 0, 20) && in(what, 0, 2));
        return refusal(plan(film, screen, start, pause), null)[what];
    }

    int nextStart(int film, int screen, int from) {
        index(isFilm(film) && in(screen, 0, 2));
        argument(in(from, 0, 1999));
        for (int start = from; start < 2000; start++) {
            if (refusal(plan(film, screen, start, 0), null)[0] == 0) {
                return start;
            }
        }
        return -1;
    }

    int bestScreen(int film, int from) {
        index(isFilm(film));
        argument(in(from, 0, 1999));
        int[] starts = {nextStart(film, 0, from), nextStart(film, 1, from), nextStart(film, 2, from)};
        int earliest = Integer.MAX_VALUE;
        for (int start : starts) {
            earliest = start >= 0 && start < earliest ? start : earliest;
        }
        for (int seats = 400; seats >= 50; seats--) {
            for (int screen = 0; screen < 3; screen++) {
                if (starts[screen] == earliest && now.seats[screen] == seats) {
                    return screen;
                }
            }
        }
        return -1;
    }

    int ifShown(int film, int screen, int start) {
        index(isFilm(film) && in(screen, 0, 2));
        argument(in(start, 0, 1999));
        Showing s = plan(film, screen, start, 0);
        if (refusal(s, null)[0] != 0) {
            return -1;
        }
        int before = count(3);
        now.showings.add(s);
        int then = count(3);
        now.showings.remove(now.showings.size() - 1);
        return then - before;
    }

    double use(int screen) {
        index(in(screen, 0, 2));
        return (double) screen(screen, 3) / 2000;
    }

    long digest() {
        List<Long> values = new ArrayList<>();
        for (int what = 0; what < 12; what++) {
            values.add((long) count(what));
        }
        for (int f = 0; f < now.films.size(); f++) {
            for (int what = 0; what < 6; what++) {
                values.add((long) filmOf(f, what));
            }
            for (int screen = 0; screen < 3; screen++) {
                values.add((long) nextStart(f, screen, 0));
            }
            values.add((long) bestScreen(f, 0));
        }
        for (int s = 0; s < now.showings.size(); s++) {
            for (int what = 0; what < 6; what++) {
                values.add((long) showing(s, what));
            }
            for (int reel = 0; reel < 6; reel++) {
                values.add((long) reel(s, reel));
            }
        }
        addOthers(values);
        long hash = 3727;
        for (long value : values) {
            hash = 31 * hash + value;
        }
        return hash;
    }

    private void addOthers(List<Long> values) {
        for (int screen = 0; screen < 3; screen++) {
            for (int what = 0; what < 5; what++) {
                values.add((long) screen(screen, what));
            }
            for (int minute = 0; minute <= 1900; minute += 100) {
                values.add((long) runs(screen, minute));
            }
            values.add(Double.doubleToLongBits(use(screen)));
        }
        for (int g = 0; g < now.guests.size(); g++) {
            for (int what = 0; what < 4; what++) {
                values.add((long) guestOf(g, what));
            }
        }
        for (int j = 0; j < 3; j++) {
            for (int what = 0; what < 3; what++) {
                values.add((long) juror(j, what));
            }
        }
        for (int what = 0; what < 3; what++) {
            values.add((long) stopped(what));
        }
        values.add((long) buffer.length());
        for (int i = 0; i < buffer.length(); i++) {
            values.add((long) buffer.charAt(i));
        }
    }
}
