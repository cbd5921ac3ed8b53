import java.util.ArrayDeque;
import java.util.ArrayList;
import java.util.Arrays;
import java.util.HashMap;
import java.util.List;
import java.util.Map;

/**
 * The document once more, written for the tests without regard to cost: every row of hours is lived
 * through from its start, states are copied freely. It shares no code with StoveFavours.
 */
final class PlainStove {
    static final int NONE = -1, UNKNOWN = -1000000001, OUTSIDE = -1000000002, NOT = -1000000003, FULL = -1000000004;

    /** Section 2 of the document. */
    private static final class State {
        int[] warmth = {};
        int[] since = {};
        int[] laws = {4, 4, 4, 4, 4, 4};
        int darling = NONE;
        int logs = 20;
        int hour = 0;

        State copy() {
            State s = new State();
            s.warmth = warmth.clone();
            s.since = since.clone();
            s.laws = laws.clone();
            s.darling = darling;
            s.logs = logs;
            s.hour = hour;
            return s;
        }
    }

    private String text = "";
    private int faultAt = NONE;
    private int people = 0;
    private int[] colder = {};
    private int[] costs = {1, 1, 1, 1, 1, 1};
    private int gain = 5;
    private State now = new State();
    private ArrayDeque<State> past = new ArrayDeque<>();
    private final State[] images = new State[2];
    private final long[] imageSeeds = new long[2];
    private final List<int[]> notes = new ArrayList<>();
    private final List<int[]> book = new ArrayList<>();
    private long seed = 0;

    int feed(int letter) {
        if (letter < 0 || letter > 255) return OUTSIDE;
        if (text.length() == 200) return FULL;
        text += (char) letter;
        return text.length();
    }

    /** A fault found while reading, as number and place. */
    private static final class Fault extends RuntimeException {
        private static final long serialVersionUID = 1L;
        final int number;
        final int place;

        Fault(int number, int place) {
            this.number = number;
            this.place = place;
        }
    }

    /** The text's tokens: words, numbers as they stand, and where each begins. */
    private static List<String> split(String text, List<Integer> places) {
        List<String> tokens = new ArrayList<>();
        for (int k = 0; k < text.length(); k++) {
            char c = text.charAt(k);
            if (c == ' ') continue;
            int end = k + 1;
            if (c >= '0' && c <= '9') while (end < text.length() && text.charAt(end) >= '0' && text.charAt(end) <= '9') end++;
            tokens.add(text.substring(k, end));
            places.add(k);
            k = end - 1;
        }
        tokens.add("");
        places.add(text.length());
        return tokens;
    }

    private static int number(List<String> tokens, List<Integer> places, int t, int least, int most) {
        String token = tokens.get(t);
        if (!token.matches("[0-9]+")) throw new Fault(1, places.get(t));
        if (token.length() > 3) throw new Fault(2, places.get(t));
        int value = Integer.parseInt(token);
        if (value < least || value > most) throw new Fault(2, places.get(t));
        return value;
    }

    int house() {
        List<Integer> places = new ArrayList<>();
        List<String> tokens = split(text, places);
        text = "";
        List<int[]> persons = new ArrayList<>();
        Map<Integer, int[]> doings = new HashMap<>();
        int[] stove = null;
        try {
            int t = 0;
            while (t < tokens.size() - 1) {
                String word = tokens.get(t);
                if (word.equals("p")) {
                    if (persons.size() == 5) throw new Fault(3, places.get(t));
                    persons.add(new int[] {number(tokens, places, t + 1, 0, 99), number(tokens, places, t + 2, 0, 9)});
                    t += 3;
                } else if (word.equals("d")) {
                    int e = number(tokens, places, t + 1, 0, 5);
                    if (doings.containsKey(e)) throw new Fault(4, places.get(t + 1));
                    doings.put(e, new int[] {number(tokens, places, t + 2, 0, 9), number(tokens, places, t + 3, 0, 6)});
                    t += 4;
                } else if (word.equals("s")) {
                    if (stove != null) throw new Fault(3, places.get(t));
                    stove = new int[] {number(tokens, places, t + 1, 0, persons.size() - 1),
                        number(tokens, places, t + 2, 1, 20), number(tokens, places, t + 3, 0, 999)};
                    t += 4;
                } else {
                    throw new Fault(1, places.get(t));
                }
                if (!tokens.get(t).equals(";")) throw new Fault(1, places.get(t));
                t++;
            }
        } catch (Fault fault) {
            faultAt = fault.place;
            return -10 - fault.number;
        }
        faultAt = NONE;
        begin(persons, doings, stove);
        return people;
    }

    private void begin(List<int[]> persons, Map<Integer, int[]> doings, int[] stove) {
        people = persons.size();
        now = new State();
        now.warmth = new int[people];
        now.since = new int[people];
        colder = new int[people];
        for (int p = 0; p < people; p++) {
            now.warmth[p] = persons.get(p)[0];
            colder[p] = persons.get(p)[1];
            now.since[p] = NONE;
        }
        for (int e = 0; e < 6; e++) {
            costs[e] = doings.containsKey(e) ? doings.get(e)[0] : 1;
            now.laws[e] = doings.containsKey(e) ? doings.get(e)[1] : 4;
        }
        now.darling = people == 0 ? NONE : stove == null ? 0 : stove[0];
        gain = stove == null ? 5 : stove[1];
        now.logs = stove == null ? 20 : stove[2];
        past.clear();
        images[0] = null;
        images[1] = null;
        notes.clear();
        book.clear();
    }

    int fault() {
        return faultAt;
    }

    int told(int what) {
        int frozen = 0;
        for (int p = 0; p < people; p++) frozen += now.warmth[p] == 0 ? 1 << p : 0;
        int[] all = {people, text.length(), now.hour, now.darling, now.logs, gain, frozen, notes.size(), book.size(), past.size()};
        return what < 0 || what > 9 ? OUTSIDE : all[what];
    }

    private boolean no(int p) {
        return p < 0 || p >= people;
    }

    private static boolean noDoing(int e) {
        return e < 0 || e > 5;
    }

    int person(int p, int what) {
        if (no(p)) return UNKNOWN;
        if (what < 0 || what > 2) return OUTSIDE;
        return what == 0 ? now.warmth[p] : what == 1 ? colder[p] : now.since[p];
    }

    int doing(int e, int what) {
        if (noDoing(e)) return UNKNOWN;
        if (what < 0 || what > 1) return OUTSIDE;
        return what == 0 ? costs[e] : now.laws[e];
    }

    /** The law k: whom it likes then. */
    private int likes(State s, int k, int doer) {
        int best = 0;
        switch (k) {
            case 0: return doer;
            case 1: return (s.darling + 1) % people;
            case 2:
                for (int p = 0; p < people; p++) if (s.warmth[p] < s.warmth[best]) best = p;
                return best;
            case 3:
                for (int p = 0; p < people; p++) if (s.since[p] < s.since[best]) best = p;
                return best;
            case 4: return s.darling;
            case 5: return (s.darling + people - 1) % people;
            default: return (doer + 1) % people;
        }
    }

    /** An hour of thing 10 * E + P, or 99; with or without paying. */
    private void hour(State s, int thing, boolean pay) {
        if (thing != 99) {
            s.darling = likes(s, s.laws[thing / 10], thing % 10);
            if (pay) s.logs -= costs[thing / 10];
        }
        s.since[s.darling] = s.hour;
        for (int p = 0; p < people; p++) {
            int w = p == s.darling ? s.warmth[p] + gain : s.warmth[p] - colder[p];
            s.warmth[p] = w > 99 ? 99 : w < 0 ? 0 : w;
        }
        s.hour++;
    }

    private void really(int thing) {
        past.addLast(now.copy());
        if (past.size() > 30) past.removeFirst();
        hour(now, thing, true);
    }

    int act(int e, int p) {
        if (noDoing(e) || no(p)) return UNKNOWN;
        if (now.logs < costs[e]) return NOT;
        if (now.hour > 90000) return FULL;
        really(10 * e + p);
        return now.darling;
    }

    int sit(int n) {
        if (n < 1 || n > 99) return OUTSIDE;
        if (people == 0) return NOT;
        if (now.hour > 90000) return FULL;
        for (int k = 0; k < n; k++) really(99);
        return now.darling;
    }

    private int draw(int n) {
        seed = (seed * 1103515245L + 12345L) % (1L << 31);
        return (int) (seed / 65536 % n);
    }

    int drift(int n) {
        if (n < 1 || n > 99) return OUTSIDE;
        if (people == 0) return NOT;
        if (now.hour > 90000) return FULL;
        for (int k = 0; k < n; k++) {
            int e = draw(8);
            int thing = 99;
            if (e < 6) {
                int p = draw(people);
                if (now.logs >= costs[e]) thing = 10 * e + p;
            }
            really(thing);
        }
        return now.darling;
    }

    int stack(int n) {
        if (n < 0 || n > 999) return OUTSIDE;
        now.logs = now.logs + n > 9999 ? 9999 : now.logs + n;
        return now.logs;
    }

    int law(int e, int k) {
        if (noDoing(e) || k < 0 || k > 6) return UNKNOWN;
        int was = now.laws[e];
        now.laws[e] = k;
        return was;
    }

    int undo(int n) {
        if (n < 1 || n > 30) return OUTSIDE;
        if (past.size() < n) return NOT;
        for (int k = 0; k < n; k++) now = past.removeLast();
        return now.hour;
    }

    int freezes(int what) {
        if (what < 0 || what > 1) return OUTSIDE;
        if (people == 0) return NONE;
        State s = now.copy();
        for (int h = 0; h < 100; h++) {
            for (int p = 0; p < people; p++) if (s.warmth[p] == 0) return what == 0 ? h : p;
            hour(s, 99, false);
        }
        return NONE;
    }

    /** All rows of n things, in their order, each lived through: the best one with its logs, or null. */
    private int[] bestRow(int n, int wanted) {
        List<Integer> things = new ArrayList<>();
        things.add(99);
        for (int e = 0; e < 6; e++) for (int p = 0; p < people; p++) things.add(10 * e + p);
        int all = 1;
        for (int k = 0; k < n; k++) all *= things.size();
        int[] best = null;
        int bestScore = Integer.MAX_VALUE;
        for (int number = 0; number < all; number++) {
            int[] row = new int[n + 1];
            int rest = number;
            int score = 0;
            for (int k = n - 1; k >= 0; k--) {
                row[k] = things.get(rest % things.size());
                rest /= things.size();
                row[n] += row[k] == 99 ? 0 : costs[row[k] / 10];
                score += row[k] == 99 ? 0 : 1;
            }
            score += 10 * row[n];
            if (row[n] <= now.logs && score < bestScore && serves(row, n, wanted)) {
                best = row;
                bestScore = score;
            }
        }
        return best;
    }

    private boolean serves(int[] row, int n, int wanted) {
        State s = now.copy();
        for (int k = 0; k < n; k++) {
            hour(s, row[k], true);
            if (wanted == NONE) for (int p = 0; p < people; p++) if (s.warmth[p] == 0) return false;
        }
        return wanted == NONE || s.darling == wanted;
    }

    private int partOf(int[] row, int n, int i) {
        if (row == null || i < NONE || i >= n) return NONE;
        return i == NONE ? row[n] : row[i];
    }

    int favour(int p, int n, int i) {
        if (no(p)) return UNKNOWN;
        if (n < 1 || n > 3) return OUTSIDE;
        return partOf(bestRow(n, p), n, i);
    }

    int allWarm(int n, int i) {
        if (n < 1 || n > 3) return OUTSIDE;
        if (people == 0) return NOT;
        return partOf(bestRow(n, NONE), n, i);
    }

    /** What comes of a duel from this state on, and (at its start) the first thing in the second place. */
    private int[] played(State s, int a, int b, int turn, int n) {
        if (turn == n) return new int[] {s.darling == a ? 2 : s.darling == b ? 0 : 1, NONE};
        int[] best = null;
        for (int thing = 0; thing < 7; thing++) {
            State then = s.copy();
            hour(then, thing == 6 ? 99 : 10 * thing + (turn % 2 == 0 ? a : b), false);
            int end = played(then, a, b, turn + 1, n)[0];
            if (best == null || (turn % 2 == 0 ? end > best[0] : end < best[0])) best = new int[] {end, thing};
        }
        return best;
    }

    int duel(int a, int b, int n, int what) {
        if (no(a) || no(b) || a == b) return UNKNOWN;
        if (n < 1 || n > 4 || what < 0 || what > 1) return OUTSIDE;
        return played(now, a, b, 0, n)[what];
    }

    /** The lap of the book: rounds, then hours of each person; null if there is none. */
    private int[] lap() {
        State s = now.copy();
        List<String> standings = new ArrayList<>();
        List<int[]> counts = new ArrayList<>();
        int[] count = new int[people];
        standings.add(standing(s));
        counts.add(count.clone());
        for (int round = 1; round <= 100 && !book.isEmpty(); round++) {
            for (int[] line : book) {
                Arrays.fill(s.warmth, 50);
                hour(s, 10 * line[0] + line[1], false);
                count[s.darling]++;
            }
            int then = standings.indexOf(standing(s));
            if (then >= 0) {
                int[] lap = new int[people + 1];
                for (int p = 0; p < people; p++) lap[p] = count[p] - counts.get(then)[p];
                lap[people] = round - then;
                return lap;
            }
            standings.add(standing(s));
            counts.add(count.clone());
        }
        return null;
    }

    private String standing(State s) {
        StringBuilder all = new StringBuilder("" + s.darling);
        for (int p = 0; p < people; p++) for (int q = 0; q < people; q++) all.append(Integer.compare(s.since[p], s.since[q]) + 1);
        return all.toString();
    }

    int forEver(int p) {
        if (p != NONE && no(p)) return UNKNOWN;
        if (people == 0) return NOT;
        int[] lap = lap();
        return lap == null ? NONE : p == NONE ? lap[people] : lap[p];
    }

    int fair() {
        if (people == 0) return NOT;
        int[] lap = lap();
        if (lap == null) return NONE;
        int[] hours = Arrays.copyOf(lap, people);
        Arrays.sort(hours);
        return hours[people - 1] - hours[0];
    }

    private List<Integer> leaders(int p) {
        List<Integer> all = new ArrayList<>();
        for (int e = 0; e < 6; e++) for (int q = 0; q < people; q++) if (likes(now, now.laws[e], q) == p) all.add(10 * e + q);
        return all;
    }

    int left(int p, int i) {
        if (no(p)) return UNKNOWN;
        List<Integer> all = leaders(p);
        return i == NONE ? all.size() : i >= 0 && i < all.size() ? all.get(i) : NONE;
    }

    int doers(int p) {
        if (no(p)) return UNKNOWN;
        int set = 0;
        for (int thing : leaders(p)) set |= 1 << thing % 10;
        return set;
    }

    int chair(int p) {
        if (no(p)) return UNKNOWN;
        int w = now.warmth[p];
        for (int h = 0; h < 200; h++) {
            if (w <= 0) return h;
            w -= colder[p];
        }
        return NONE;
    }

    int note(int e, int p, int a, int b) {
        if (noDoing(e) || no(p) || no(a) || no(b)) return UNKNOWN;
        if (notes.size() == 12) return FULL;
        notes.add(new int[] {e, p, a, b});
        return notes.size();
    }

    int laws(int e) {
        if (noDoing(e)) return UNKNOWN;
        int set = 0;
        for (int k : new int[] {0, 1, 4, 5, 6}) {
            boolean all = true;
            for (int[] note : notes) {
                State s = now.copy();
                s.darling = note[2];
                all &= note[0] != e || likes(s, k, note[1]) == note[3];
            }
            set += all ? 1 << k : 0;
        }
        return set;
    }

    int tryNext(int e) {
        if (noDoing(e)) return UNKNOWN;
        if (people == 0) return NOT;
        int best = NONE;
        int least = Integer.bitCount(laws(e));
        for (int p = 0; p < people; p++) {
            int[] parts = new int[people];
            for (int k = 0; k < 7; k++) if ((laws(e) & 1 << k) != 0) parts[likes(now, k, p)]++;
            int greatest = Arrays.stream(parts).max().getAsInt();
            if (greatest < least) {
                least = greatest;
                best = p;
            }
        }
        return best;
    }

    int write(int e, int p) {
        if (noDoing(e) || no(p)) return UNKNOWN;
        if (book.size() == 20) return FULL;
        book.add(new int[] {e, p});
        return book.size();
    }

    int judge(int what) {
        if (what < 0 || what > 1) return OUTSIDE;
        if (people == 0) return NOT;
        State s = now.copy();
        for (int k = 0; k < book.size(); k++) {
            if (costs[book.get(k)[0]] > s.logs) return what == 0 ? k : s.darling;
            hour(s, 10 * book.get(k)[0] + book.get(k)[1], true);
        }
        return what == 0 ? NONE : s.darling;
    }

    int tear() {
        int both = notes.size() + book.size();
        notes.clear();
        book.clear();
        return both;
    }

    int seed(int v) {
        if (v < 0) return OUTSIDE;
        int was = (int) seed;
        seed = v;
        return was;
    }

    int keep(int i) {
        if (i < 0 || i > 1) return UNKNOWN;
        images[i] = now.copy();
        imageSeeds[i] = seed;
        past.clear();
        return 1;
    }

    int goBack(int i) {
        if (i < 0 || i > 1) return UNKNOWN;
        if (images[i] == null) return NOT;
        now = images[i].copy();
        seed = imageSeeds[i];
        past.clear();
        return 1;
    }
}
