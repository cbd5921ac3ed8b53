/**
 * Whom the stove likes: a house told in a text, hours in which the stove turns from one person to
 * the next, and what can be tried, seen and kept of it.
 */
public final class StoveFavours {
    public static final int NONE = -1, UNKNOWN = -1000000001, OUTSIDE = -1000000002, NOT = -1000000003, FULL = -1000000004;

    private static final int LETTERS = 200, PEOPLE = 5, DOINGS = 6, LAWS = 7, IMAGES = 2;
    private static final int WARMEST = 99, COLDEST_STEP = 9, MOST_COST = 9, MOST_GAIN = 20, MOST_TOLD_LOGS = 999;
    private static final int UNTOLD_GAIN = 5, UNTOLD_LOGS = 20, UNTOLD_COST = 1, UNTOLD_LAW = 4;
    private static final int MOST_STACK = 999, MOST_LOGS = 9999, LAST_HOUR = 90000, MOST_HOURS = 99;
    private static final int UNDONE = 30, NOTED = 12, LINES = 20, ROUNDS = 100;
    private static final int PLANNED = 3, DUELLED = 4, NO_THING = 99;
    // LAWS 0, 1, 4, 5, 6: those that look neither at WARMTH nor at SINCE
    private static final int SEEN_LAWS = 115;

    private final Text text;
    private final Home home;
    private final Stove now;
    private final Stove trial;
    private final Past past;
    private final Shelf imageStoves;
    private final Row imageSeeds;
    private final Row imagesTaken;
    private final Notes notes;
    private final Book book;
    private final Planner planner;
    private final Contest contest;
    private final Rounds rounds;
    private int seedNow;

    public StoveFavours() {
        text = new Text();
        home = new Home();
        now = new Stove();
        trial = new Stove();
        past = new Past();
        imageStoves = new Shelf(IMAGES);
        imageSeeds = new Row(IMAGES);
        imagesTaken = new Row(IMAGES);
        notes = new Notes();
        book = new Book();
        planner = new Planner();
        contest = new Contest();
        rounds = new Rounds();
        seedNow = 0;
        // a home of its own, for a constructor hands out nothing of what it makes
        now.moveInto(new Home());
    }

    // ---- the house

    public int feed(int letter) {
        if (!within(letter, 0, 255)) {
            return OUTSIDE;
        }
        if (text.length >= LETTERS) {
            return FULL;
        }
        return text.append(letter);
    }

    public int house() {
        int number = text.read();
        text.length = 0;
        if (number != 0) {
            return -10 - number;
        }
        home.copyFrom(text.draft);
        now.moveInto(home);
        past.count = 0;
        imagesTaken.fill(0);
        notes.count = 0;
        book.lines = 0;
        return home.people;
    }

    public int fault() {
        return text.faultPlace;
    }

    public int told(int what) {
        switch (what) {
            case 0: return home.people;
            case 1: return text.length;
            case 2: return now.hour;
            case 3: return now.darling;
            case 4: return now.logs;
            case 5: return home.gain;
            case 6: return now.frozen(home.people);
            case 7: return notes.count;
            case 8: return book.lines;
            case 9: return past.count;
            default: return OUTSIDE;
        }
    }

    public int person(int p, int what) {
        if (!isPerson(p)) {
            return UNKNOWN;
        }
        switch (what) {
            case 0: return now.warmth.at(p);
            case 1: return home.colder.at(p);
            case 2: return now.since.at(p);
            default: return OUTSIDE;
        }
    }

    public int doing(int e, int what) {
        if (!isDoing(e)) {
            return UNKNOWN;
        }
        switch (what) {
            case 0: return home.costs.at(e);
            case 1: return now.lawOf.at(e);
            default: return OUTSIDE;
        }
    }

    // ---- hours

    public int act(int e, int p) {
        if (!isDoing(e) || !isPerson(p)) {
            return UNKNOWN;
        }
        if (home.costs.at(e) > now.logs) {
            return NOT;
        }
        if (now.hour > LAST_HOUR) {
            return FULL;
        }
        return spendHour(e, p);
    }

    public int sit(int n) {
        int refusal = refusalOfHours(n);
        if (refusal != 0) {
            return refusal;
        }
        for (int k = 0; k < n; k++) {
            spendHour(NONE, NONE);
        }
        return now.darling;
    }

    public int drift(int n) {
        int refusal = refusalOfHours(n);
        if (refusal != 0) {
            return refusal;
        }
        for (int k = 0; k < n; k++) {
            driftHour();
        }
        return now.darling;
    }

    public int stack(int n) {
        if (!within(n, 0, MOST_STACK)) {
            return OUTSIDE;
        }
        now.logs = Math.min(MOST_LOGS, now.logs + n);
        return now.logs;
    }

    public int law(int e, int k) {
        if (!isDoing(e) || !within(k, 0, LAWS - 1)) {
            return UNKNOWN;
        }
        int before = now.lawOf.at(e);
        now.lawOf.put(e, k);
        return before;
    }

    public int undo(int n) {
        if (!within(n, 1, UNDONE)) {
            return OUTSIDE;
        }
        if (past.count < n) {
            return NOT;
        }
        now.copyFrom(past.takeBack(n));
        return now.hour;
    }

    // ---- tried

    public int freezes(int what) {
        if (!within(what, 0, 1)) {
            return OUTSIDE;
        }
        int hours = NONE;
        int who = NONE;
        for (int p = 0; p < home.people; p++) {
            int alone = hoursUndisturbed(p);
            if (alone != NONE && (hours == NONE || alone < hours)) {
                hours = alone;
                who = p;
            }
        }
        return what == 0 ? hours : who;
    }

    public int favour(int p, int n, int i) {
        if (!isPerson(p)) {
            return UNKNOWN;
        }
        if (!within(n, 1, PLANNED)) {
            return OUTSIDE;
        }
        planner.plan(home, now, n, p);
        return planner.answer(i);
    }

    public int allWarm(int n, int i) {
        if (!within(n, 1, PLANNED)) {
            return OUTSIDE;
        }
        if (home.people == 0) {
            return NOT;
        }
        planner.plan(home, now, n, NONE);
        return planner.answer(i);
    }

    public int duel(int a, int b, int n, int what) {
        if (!isPerson(a) || !isPerson(b) || a == b) {
            return UNKNOWN;
        }
        if (!within(n, 1, DUELLED) || !within(what, 0, 1)) {
            return OUTSIDE;
        }
        contest.fight(home, now, a, b, n);
        return what == 0 ? contest.result : contest.firstThing;
    }

    public int forEver(int p) {
        if (p != NONE && !isPerson(p)) {
            return UNKNOWN;
        }
        if (home.people == 0) {
            return NOT;
        }
        rounds.run(home.people, now, book);
        if (p == NONE || rounds.lap == NONE) {
            return rounds.lap;
        }
        return rounds.hoursOf(p);
    }

    public int fair() {
        if (home.people == 0) {
            return NOT;
        }
        rounds.run(home.people, now, book);
        return rounds.lap == NONE ? NONE : rounds.spread(home.people);
    }

    public int left(int p, int i) {
        if (!isPerson(p)) {
            return UNKNOWN;
        }
        int count = 0;
        for (int e = 0; e < DOINGS; e++) {
            for (int doer = 0; doer < home.people; doer++) {
                if (now.chosenBy(e, doer, home.people) == p) {
                    if (count == i) {
                        return 10 * e + doer;
                    }
                    count++;
                }
            }
        }
        return i == NONE ? count : NONE;
    }

    public int doers(int p) {
        if (!isPerson(p)) {
            return UNKNOWN;
        }
        int set = 0;
        for (int e = 0; e < DOINGS; e++) {
            for (int doer = 0; doer < home.people; doer++) {
                if (now.chosenBy(e, doer, home.people) == p) {
                    set |= 1 << doer;
                }
            }
        }
        return set;
    }

    public int chair(int p) {
        return isPerson(p) ? hoursInDraught(p) : UNKNOWN;
    }

    // ---- what was seen

    public int note(int e, int p, int a, int b) {
        if (!isDoing(e) || !isPerson(p) || !isPerson(a) || !isPerson(b)) {
            return UNKNOWN;
        }
        return notes.count >= NOTED ? FULL : notes.add(e, p, a, b);
    }

    public int laws(int e) {
        return isDoing(e) ? notes.fitting(e, home.people) : UNKNOWN;
    }

    public int tryNext(int e) {
        if (!isDoing(e)) {
            return UNKNOWN;
        }
        if (home.people == 0) {
            return NOT;
        }
        int set = notes.fitting(e, home.people);
        int least = Integer.bitCount(set);
        int best = NONE;
        for (int p = 0; p < home.people; p++) {
            int part = greatestPart(set, p);
            if (part < least) {
                least = part;
                best = p;
            }
        }
        return best;
    }

    public int write(int e, int p) {
        if (!isDoing(e) || !isPerson(p)) {
            return UNKNOWN;
        }
        return book.lines >= LINES ? FULL : book.add(e, p);
    }

    public int judge(int what) {
        if (!within(what, 0, 1)) {
            return OUTSIDE;
        }
        if (home.people == 0) {
            return NOT;
        }
        trial.copyFrom(now);
        int wrong = firstUnpaid();
        return what == 0 ? wrong : trial.darling;
    }

    public int tear() {
        int both = notes.count + book.lines;
        notes.count = 0;
        book.lines = 0;
        return both;
    }

    // ---- images

    public int seed(int v) {
        if (v < 0) {
            return OUTSIDE;
        }
        int before = seedNow;
        seedNow = v;
        return before;
    }

    public int keep(int i) {
        if (!within(i, 0, IMAGES - 1)) {
            return UNKNOWN;
        }
        imageStoves.at(i).copyFrom(now);
        imageSeeds.put(i, seedNow);
        imagesTaken.put(i, 1);
        past.count = 0;
        return 1;
    }

    public int goBack(int i) {
        if (!within(i, 0, IMAGES - 1)) {
            return UNKNOWN;
        }
        if (imagesTaken.at(i) == 0) {
            return NOT;
        }
        now.copyFrom(imageStoves.at(i));
        seedNow = imageSeeds.at(i);
        past.count = 0;
        return 1;
    }

    // ---- helpers of the calls

    private static boolean within(int value, int least, int most) {
        return value >= least && value <= most;
    }

    private boolean isPerson(int p) {
        return p >= 0 && p < home.people;
    }

    private static boolean isDoing(int e) {
        return e >= 0 && e < DOINGS;
    }

    /** The refusal of n hours that nobody told one by one; 0 if there is none. */
    private int refusalOfHours(int n) {
        if (!within(n, 1, MOST_HOURS)) {
            return OUTSIDE;
        }
        if (home.people == 0) {
            return NOT;
        }
        return now.hour > LAST_HOUR ? FULL : 0;
    }

    /** An hour goes by, with a doing or (e is NONE) without any; the logs are known to suffice. */
    private int spendHour(int e, int p) {
        past.take(now);
        now.live(home, e, p);
        return now.darling;
    }

    private void driftHour() {
        int e = draw(8);
        if (!isDoing(e)) {
            spendHour(NONE, NONE);
            return;
        }
        // the person is drawn ahead of the look at the logs: the seed must move either way
        int p = draw(home.people);
        if (home.costs.at(e) <= now.logs) {
            spendHour(e, p);
        } else {
            spendHour(NONE, NONE);
        }
    }

    private int draw(int n) {
        seedNow = (int) ((seedNow * 1103515245L + 12345L) & 2147483647L);
        return n > 0 ? seedNow / 65536 % n : 0;
    }

    /** In how many hours a person is frozen that is never the darling; NONE: never. */
    private int hoursInDraught(int p) {
        int warmth = now.warmth.at(p);
        int colder = home.colder.at(p);
        if (warmth == 0) {
            return 0;
        }
        return colder > 0 ? (warmth + colder - 1) / colder : NONE;
    }

    /** In how many hours a person is frozen if nothing is done; NONE: never. */
    private int hoursUndisturbed(int p) {
        // the darling only gets warmer, so it is frozen now or never
        if (p == now.darling && now.warmth.at(p) > 0) {
            return NONE;
        }
        return hoursInDraught(p);
    }

    /** How many laws of the set, at most, end alike if this person does the doing now. */
    private int greatestPart(int set, int doer) {
        int greatest = 0;
        for (int end = 0; end < home.people; end++) {
            int part = 0;
            for (int k = 0; k < LAWS; k++) {
                if ((set >> k & 1) != 0 && Stove.plainlyChosen(k, doer, now.darling, home.people) == end) {
                    part++;
                }
            }
            greatest = Math.max(greatest, part);
        }
        return greatest;
    }

    /** Lives the book on the trial stove as far as it can be paid: the first line that cannot. */
    private int firstUnpaid() {
        for (int line = 0; line < book.lines; line++) {
            int e = book.doings.at(line);
            if (home.costs.at(e) > trial.logs) {
                return line;
            }
            trial.live(home, e, book.doers.at(line));
        }
        return NONE;
    }

    /** A row of numbers that looks at every place before it uses it. */
    private static final class Row {
        private final int[] cells;

        Row(int length) {
            cells = new int[Math.max(0, length)];
        }

        int at(int place) {
            return place >= 0 && place < cells.length ? cells[place] : 0;
        }

        void put(int place, int value) {
            if (place >= 0 && place < cells.length) {
                cells[place] = value;
            }
        }

        void fill(int value) {
            for (int k = 0; k < cells.length; k++) {
                cells[k] = value;
            }
        }

        void copyFrom(Row other) {
            for (int k = 0; k < cells.length && k < other.cells.length; k++) {
                cells[k] = other.cells[k];
            }
        }
    }

    /** What the text told: it stays as it is until the next house. */
    private static final class Home {
        final Row warmth = new Row(PEOPLE);
        final Row colder = new Row(PEOPLE);
        final Row costs = new Row(DOINGS);
        final Row lawOf = new Row(DOINGS);
        int people;
        int liked;
        int gain;
        int logs;

        Home() {
            makeUntold();
        }

        void makeUntold() {
            people = 0;
            liked = 0;
            gain = UNTOLD_GAIN;
            logs = UNTOLD_LOGS;
            warmth.fill(0);
            colder.fill(0);
            costs.fill(UNTOLD_COST);
            lawOf.fill(UNTOLD_LAW);
        }

        void copyFrom(Home other) {
            people = other.people;
            liked = other.liked;
            gain = other.gain;
            logs = other.logs;
            warmth.copyFrom(other.warmth);
            colder.copyFrom(other.colder);
            costs.copyFrom(other.costs);
            lawOf.copyFrom(other.lawOf);
        }
    }

    /** The text and its reading, clause by clause, into a draft of a home. */
    private static final class Text {
        private final Row letters = new Row(LETTERS);
        final Home draft = new Home();
        int length = 0;
        int faultPlace = NONE;
        private int faultNumber = 0;
        private int place = 0;
        private int doingsTold = 0;
        private boolean stoveTold = false;

        int append(int letter) {
            letters.put(length, letter);
            length++;
            return length;
        }

        /** Reads the whole text: the number of its first fault, 0 if it has none. */
        int read() {
            draft.makeUntold();
            faultPlace = NONE;
            faultNumber = 0;
            place = 0;
            doingsTold = 0;
            stoveTold = false;
            skipBlanks();
            // every clause takes a letter at least
            for (int clause = 0; clause < LETTERS && place < length && faultNumber == 0; clause++) {
                readClause();
                skipBlanks();
            }
            return faultNumber;
        }

        private void readClause() {
            int word = letters.at(place);
            if (word == 'p') {
                readPerson();
            } else if (word == 'd') {
                readDoing();
            } else if (word == 's') {
                readStove();
            } else {
                blame(1, place);
            }
        }

        private void readPerson() {
            if (draft.people >= PEOPLE) {
                blame(3, place);
                return;
            }
            place++;
            int warmth = readNumber(0, WARMEST);
            int colder = readNumber(0, COLDEST_STEP);
            readEnd();
            draft.warmth.put(draft.people, warmth);
            draft.colder.put(draft.people, colder);
            draft.people++;
        }

        private void readDoing() {
            place++;
            skipBlanks();
            int first = place;
            int e = readNumber(0, DOINGS - 1);
            if ((doingsTold >> e & 1) != 0) {
                blame(4, first);
            }
            int cost = readNumber(0, MOST_COST);
            int chosenLaw = readNumber(0, LAWS - 1);
            readEnd();
            doingsTold |= 1 << e;
            draft.costs.put(e, cost);
            draft.lawOf.put(e, chosenLaw);
        }

        private void readStove() {
            if (stoveTold) {
                blame(3, place);
                return;
            }
            place++;
            stoveTold = true;
            draft.liked = readNumber(0, draft.people - 1);
            draft.gain = readNumber(1, MOST_GAIN);
            draft.logs = readNumber(0, MOST_TOLD_LOGS);
            readEnd();
        }

        private int readNumber(int least, int most) {
            skipBlanks();
            int first = place;
            int value = 0;
            while (place < length && isFigure(letters.at(place))) {
                // what has more than three figures is a fault whatever its value
                value = place - first < 3 ? value * 10 + letters.at(place) - '0' : value;
                place++;
            }
            if (place == first) {
                blame(1, first);
            } else if (place - first > 3 || value < least || value > most) {
                blame(2, first);
            }
            return value;
        }

        private void readEnd() {
            skipBlanks();
            if (place < length && letters.at(place) == ';') {
                place++;
            } else {
                blame(1, place);
            }
        }

        private void skipBlanks() {
            while (place < length && letters.at(place) == ' ') {
                place++;
            }
        }

        private static boolean isFigure(int letter) {
            return letter >= '0' && letter <= '9';
        }

        /** The first blame stands: a clause is read to its end though an earlier letter is at fault. */
        private void blame(int number, int where) {
            if (faultNumber == 0) {
                faultNumber = number;
                faultPlace = where;
            }
        }
    }

    /** All that hours change: the darling, warmth, since, laws, logs and the hour. */
    private static final class Stove {
        final Row warmth = new Row(PEOPLE);
        final Row since = new Row(PEOPLE);
        final Row lawOf = new Row(DOINGS);
        int darling = NONE;
        int logs = 0;
        int hour = 0;

        void moveInto(Home home) {
            warmth.copyFrom(home.warmth);
            since.fill(NONE);
            lawOf.copyFrom(home.lawOf);
            darling = home.people > 0 ? home.liked : NONE;
            logs = home.logs;
            hour = 0;
        }

        void copyFrom(Stove other) {
            warmth.copyFrom(other.warmth);
            since.copyFrom(other.since);
            lawOf.copyFrom(other.lawOf);
            darling = other.darling;
            logs = other.logs;
            hour = other.hour;
        }

        /** Whom the stove likes after a doing of a person, by the doing's law. */
        int chosenBy(int e, int doer, int people) {
            int k = lawOf.at(e);
            if (k == 2) {
                return leastOf(warmth, people);
            }
            if (k == 3) {
                return leastOf(since, people);
            }
            return plainlyChosen(k, doer, darling, people);
        }

        /** The same for a law that looks at nothing but who did it and who was the darling. */
        static int plainlyChosen(int k, int doer, int liked, int people) {
            switch (k) {
                case 0: return doer;
                case 1: return liked + 1 < people ? liked + 1 : 0;
                case 5: return liked > 0 ? liked - 1 : people - 1;
                case 6: return doer + 1 < people ? doer + 1 : 0;
                default: return liked;
            }
        }

        private static int leastOf(Row row, int people) {
            int least = 0;
            for (int p = 1; p < people; p++) {
                if (row.at(p) < row.at(least)) {
                    least = p;
                }
            }
            return least;
        }

        /** An hour with a doing, or without any if e is NONE. */
        void live(Home home, int e, int doer) {
            int next = darling;
            if (e != NONE) {
                next = chosenBy(e, doer, home.people);
                logs -= home.costs.at(e);
            }
            warmOnly(home, next);
        }

        /** An hour in which that person is the darling. */
        void warmOnly(Home home, int next) {
            turnTo(next);
            for (int p = 0; p < home.people; p++) {
                int before = warmth.at(p);
                int after = p == next ? Math.min(WARMEST, before + home.gain) : Math.max(0, before - home.colder.at(p));
                warmth.put(p, after);
            }
        }

        /** An hour of which warmth takes no notice. */
        void turnTo(int next) {
            darling = next;
            since.put(next, hour);
            hour++;
        }

        int frozen(int people) {
            int set = 0;
            for (int p = 0; p < people; p++) {
                if (warmth.at(p) == 0) {
                    set |= 1 << p;
                }
            }
            return set;
        }
    }

    /** Stoves made once and used again, each looked at before it is handed out. */
    private static final class Shelf {
        private final Stove[] stoves;
        private final Stove spare = new Stove();

        Shelf(int length) {
            stoves = new Stove[Math.max(0, length)];
            for (int k = 0; k < stoves.length; k++) {
                stoves[k] = new Stove();
            }
        }

        Stove at(int place) {
            Stove found = place >= 0 && place < stoves.length ? stoves[place] : spare;
            return found != null ? found : spare;
        }
    }

    /** The stove ahead of each of the latest hours, in a ring. */
    private static final class Past {
        private final Shelf ring = new Shelf(UNDONE);
        private int next = 0;
        int count = 0;

        void take(Stove stove) {
            ring.at(next).copyFrom(stove);
            next = next + 1 < UNDONE ? next + 1 : 0;
            count = Math.min(UNDONE, count + 1);
        }

        /** The stove as it was n hours ago; those hours are gone from the ring. */
        Stove takeBack(int n) {
            next = next >= n ? next - n : next - n + UNDONE;
            count -= n;
            return ring.at(next);
        }
    }

    /** What was seen: who did a doing, who was and who became the darling. */
    private static final class Notes {
        private final Row doings = new Row(NOTED);
        private final Row doers = new Row(NOTED);
        private final Row were = new Row(NOTED);
        private final Row became = new Row(NOTED);
        int count = 0;

        int add(int e, int p, int a, int b) {
            doings.put(count, e);
            doers.put(count, p);
            were.put(count, a);
            became.put(count, b);
            count++;
            return count;
        }

        /** The laws by which all is so that was noted of a doing. */
        int fitting(int e, int people) {
            int set = 0;
            for (int k = 0; k < LAWS; k++) {
                if ((SEEN_LAWS >> k & 1) != 0 && fits(k, e, people)) {
                    set |= 1 << k;
                }
            }
            return set;
        }

        private boolean fits(int k, int e, int people) {
            for (int n = 0; n < count; n++) {
                if (doings.at(n) == e && Stove.plainlyChosen(k, doers.at(n), were.at(n), people) != became.at(n)) {
                    return false;
                }
            }
            return true;
        }
    }

    private static final class Book {
        final Row doings = new Row(LINES);
        final Row doers = new Row(LINES);
        int lines = 0;

        int add(int e, int p) {
            doings.put(lines, e);
            doers.put(lines, p);
            lines++;
            return lines;
        }
    }

    /** Looks for the best row of hours: fewest logs, then fewest doings, then the first row. */
    private static final class Planner {
        private final Shelf stoves = new Shelf(PLANNED + 1);
        private final Row row = new Row(PLANNED);
        private final Row best = new Row(PLANNED);
        // of each hour and person: the first thing that makes it the darling for the fewest logs, and these
        private final Row things = new Row(PLANNED * PEOPLE);
        private final Row costs = new Row(PLANNED * PEOPLE);
        private int hours = 0;
        private int wanted = NONE;
        private int purse = 0;
        private boolean found = false;
        private int bestLogs = 0;
        private int bestDoings = 0;

        /** Plans for a person to be the darling in the last hour; for NONE, so that all stay warm. */
        void plan(Home home, Stove now, int n, int person) {
            stoves.at(0).copyFrom(now);
            hours = n;
            wanted = person;
            purse = now.logs;
            found = false;
            search(home, 0, 0, 0);
        }

        /** The logs of the best row for NONE, else its i-th hour; NONE if there is no such thing. */
        int answer(int i) {
            if (!found || i < NONE || i >= hours) {
                return NONE;
            }
            return i == NONE ? bestLogs : best.at(i);
        }

        /** Goes through the rows in their order, so that of like ones the first is found first. */
        private void search(Home home, int depth, int logs, int doings) {
            if (depth >= hours) {
                takeRow(logs, doings);
                return;
            }
            gatherThings(home, depth);
            int next = madeBehind(depth, NONE - 1, home.people);
            for (int k = 0; k < PEOPLE && next != NONE; k++) {
                int thing = things.at(depth * PEOPLE + next);
                int cost = costs.at(depth * PEOPLE + next);
                row.put(depth, thing == NONE ? NO_THING : thing);
                goOn(home, depth, next, logs + cost, thing == NONE ? doings : doings + 1);
                next = madeBehind(depth, thing, home.people);
            }
        }

        private void takeRow(int logs, int doings) {
            found = true;
            bestLogs = logs;
            bestDoings = doings;
            best.copyFrom(row);
        }

        /** One thing a person is enough: what makes the same darling for more logs, or later, is never better. */
        private void gatherThings(Home home, int depth) {
            Stove before = stoves.at(depth);
            for (int p = 0; p < home.people; p++) {
                costs.put(depth * PEOPLE + p, MOST_COST + 1);
            }
            offer(depth, before.darling, NONE, 0);
            for (int e = 0; e < DOINGS; e++) {
                for (int p = 0; p < home.people; p++) {
                    offer(depth, before.chosenBy(e, p, home.people), 10 * e + p, home.costs.at(e));
                }
            }
        }

        private void offer(int depth, int next, int thing, int cost) {
            int mark = depth * PEOPLE + next;
            if (cost < costs.at(mark)) {
                costs.put(mark, cost);
                things.put(mark, thing);
            }
        }

        /** Whom the first thing behind that one makes the darling; NONE: there is no such thing. */
        private int madeBehind(int depth, int thing, int people) {
            int made = NONE;
            int first = 0;
            for (int p = 0; p < people; p++) {
                int mark = depth * PEOPLE + p;
                int other = things.at(mark);
                if (costs.at(mark) <= MOST_COST && other > thing && (made == NONE || other < first)) {
                    made = p;
                    first = other;
                }
            }
            return made;
        }

        /** Goes on behind one thing in this hour, if that can still lead to a better row. */
        private void goOn(Home home, int depth, int next, int logs, int doings) {
            if (logs > purse || !isBetter(logs, doings)) {
                return;
            }
            Stove after = stoves.at(depth + 1);
            after.copyFrom(stoves.at(depth));
            after.warmOnly(home, next);
            if (isAllowed(depth, after, home.people)) {
                search(home, depth + 1, logs, doings);
            }
        }

        private boolean isBetter(int logs, int doings) {
            return !found || logs < bestLogs || logs == bestLogs && doings < bestDoings;
        }

        private boolean isAllowed(int depth, Stove after, int people) {
            if (wanted == NONE) {
                return after.frozen(people) == 0;
            }
            return depth + 1 < hours || after.darling == wanted;
        }
    }

    /** Two who would each have the stove, by turns, by all play. */
    private static final class Contest {
        private final Shelf stoves = new Shelf(DUELLED + 1);
        private int first = NONE;
        private int other = NONE;
        private int hours = 0;
        int result = 1;
        int firstThing = 0;

        void fight(Home home, Stove now, int a, int b, int n) {
            stoves.at(0).copyFrom(now);
            first = a;
            other = b;
            hours = n;
            result = playedOut(home, 0);
        }

        /** What comes of it from this turn on: 2 the first one wins, 1 neither, 0 the other one. */
        private int playedOut(Home home, int turn) {
            Stove before = stoves.at(turn);
            if (turn >= hours) {
                return before.darling == first ? 2 : before.darling == other ? 0 : 1;
            }
            boolean firstsTurn = turn % 2 == 0;
            int best = NONE;
            int tried = 0;
            for (int thing = 0; thing <= DOINGS; thing++) {
                int next = thing < DOINGS ? before.chosenBy(thing, firstsTurn ? first : other, home.people) : before.darling;
                // what makes the same darling as an earlier thing ends like it
                if ((tried >> next & 1) == 0) {
                    tried |= 1 << next;
                    int end = endOf(home, turn, next);
                    if (best == NONE || (firstsTurn ? end > best : end < best)) {
                        best = end;
                        firstThing = turn == 0 ? thing : firstThing;
                    }
                }
            }
            return best;
        }

        private int endOf(Home home, int turn, int next) {
            Stove after = stoves.at(turn + 1);
            after.copyFrom(stoves.at(turn));
            after.warmOnly(home, next);
            return playedOut(home, turn + 1);
        }
    }

    /** The book again and again, until the stove stands as it stood behind fewer rounds. */
    private static final class Rounds {
        private final Stove stove = new Stove();
        private final Row standings = new Row(ROUNDS + 1);
        private final Row darlings = new Row(ROUNDS * LINES);
        private int hours = 0;
        private int lapHours = 0;
        int lap = NONE;

        void run(int people, Stove now, Book book) {
            stove.copyFrom(now);
            stove.warmth.fill(50);
            hours = 0;
            lap = NONE;
            standings.put(0, standing(people));
            for (int round = 1; round <= ROUNDS && lap == NONE && book.lines > 0; round++) {
                goRound(people, book);
                standings.put(round, standing(people));
                lap = roundsSinceLike(round);
            }
            lapHours = lap == NONE ? 0 : lap * book.lines;
        }

        private void goRound(int people, Book book) {
            for (int line = 0; line < book.lines; line++) {
                stove.turnTo(stove.chosenBy(book.doings.at(line), book.doers.at(line), people));
                darlings.put(hours, stove.darling);
                hours++;
            }
        }

        /** The darling and everyone's rank by since, in one number; those who never were rank alike. */
        private int standing(int people) {
            int code = stove.darling;
            for (int p = 0; p < people; p++) {
                int rank = 0;
                for (int other = 0; other < people; other++) {
                    if (stove.since.at(other) < stove.since.at(p)) {
                        rank++;
                    }
                }
                code = code * PEOPLE + rank;
            }
            return code;
        }

        private int roundsSinceLike(int round) {
            for (int earlier = 0; earlier < round; earlier++) {
                if (standings.at(earlier) == standings.at(round)) {
                    return round - earlier;
                }
            }
            return NONE;
        }

        /** In how many hours of the lap a person was the darling. */
        int hoursOf(int p) {
            int count = 0;
            for (int k = hours - lapHours; k < hours; k++) {
                if (darlings.at(k) == p) {
                    count++;
                }
            }
            return count;
        }

        int spread(int people) {
            int least = hoursOf(0);
            int most = least;
            for (int p = 1; p < people; p++) {
                int count = hoursOf(p);
                least = Math.min(least, count);
                most = Math.max(most, count);
            }
            return most - least;
        }
    }
}
