import java.util.function.Consumer;

/** What is tried, promises 14 to 22: each sentence of the document that names an edge, by itself. */
public final class TriedEdgesTest {
    private static final int NONE = StoveFavours.NONE, UNKNOWN = StoveFavours.UNKNOWN, OUTSIDE = StoveFavours.OUTSIDE;
    private static final int NOT = StoveFavours.NOT;
    /** Doings that nobody would pay for. */
    private static final String DEAR = "d2 9 4;d3 9 4;d4 9 4;d5 9 4;";
    static final Checks checks = new Checks("TriedEdgesTest");

    public static void main(String[] args) {
        nothingChanges();
        frozenFirstHours();
        frozenFirstWho();
        frozenNever();
        freezesWhat();
        favourHours();
        favourInTheLastHour();
        favourLogsThereAre();
        favourFewestLogs();
        favourFewestDoings();
        favourDearest();
        favourNoneAheadOfAll();
        favourDoingByDoing();
        favourPersonByPerson();
        favourThing();
        favourNoRow();
        favourNoSuchHour();
        allWarmHours();
        allWarmBehindAny();
        allWarmFrozenNow();
        allWarmLikewise();
        allWarmNoSuchHour();
        duelHours();
        duelTurns();
        duelItself();
        duelWarmth();
        duelLogs();
        duelOutcome();
        duelFirstThing();
        forEverEmptyBook();
        forEverNoneLeftOut();
        forEverWarmth();
        forEverOrder();
        forEverRounds();
        forEverOfOne();
        forEverPersons();
        forEverLongest();
        forEverFullBook();
        fairSpread();
        leftPlaces();
        leftLogs();
        doersSet();
        chairHours();
        checks.finish();
    }

    private static void unchanged(String call, Consumer<StoveFavours> ask) {
        StoveFavours asked = RefusedTest.rich();
        ask.accept(asked);
        checks.alike(call, Probe.all(asked, " 2;"), Probe.all(RefusedTest.rich(), " 2;"));
    }

    private static void nothingChanges() {
        checks.sentence("TRIED from now; nothing changes by it.");
        for (int what = 0; what < 2; what++) {
            int which = what;
            unchanged("freezes()", x -> x.freezes(which));
            unchanged("judge()", x -> x.judge(which));
            unchanged("duel()", x -> x.duel(0, 2, 4, which));
        }
        for (int n = 1; n <= 3; n++) {
            int hours = n;
            unchanged("favour()", x -> x.favour(2, hours, NONE));
            unchanged("allWarm()", x -> x.allWarm(hours, 0));
        }
        unchanged("forEver()", x -> x.forEver(NONE));
        unchanged("forEver(1)", x -> x.forEver(1));
        unchanged("fair()", StoveFavours::fair);
        unchanged("left()", x -> x.left(1, NONE));
        unchanged("doers()", x -> x.doers(1));
        unchanged("chair()", x -> x.chair(1));
        unchanged("laws()", x -> x.laws(0));
        unchanged("tryNext()", x -> x.tryNext(0));
    }

    private static void freezes(String text, int people, int hours, int who) {
        StoveFavours x = checks.houseOf(text, people);
        checks.due("freezes(0) of " + text, x.freezes(0), hours);
        checks.due("freezes(1) of " + text, x.freezes(1), who);
    }

    private static void frozenFirstHours() {
        checks.sentence("FREEZES: in how many hours (0 .. 99) somebody is FROZEN first, if nothing is done;");
        freezes("p50 0;p0 0;", 2, 0, 1);
        freezes("p0 0;p50 1;", 2, 0, 0);
        freezes("p50 0;p1 9;", 2, 1, 1);
        freezes("p50 0;p9 9;", 2, 1, 1);
        freezes("p50 0;p10 9;", 2, 2, 1);
        freezes("p50 0;p18 9;", 2, 2, 1);
        freezes("p50 0;p98 1;", 2, 98, 1);
        freezes("p50 0;p99 1;", 2, 99, 1);
        freezes("p50 9;p99 2;", 2, 50, 1);
    }

    private static void frozenFirstWho() {
        checks.sentence("who (of like ones the least);");
        freezes("p50 0;p6 2;p3 1;p7 3;p30 9;", 5, 3, 1);
        freezes("p50 0;p7 2;p3 1;p7 3;p30 9;", 5, 3, 2);
        freezes("p0 0;p0 0;p0 0;p0 0;p0 0;", 5, 0, 0);
        freezes("p3 1;p3 1;s0 1 1;", 2, 3, 1);
        freezes("p3 1;p3 1;s1 1 1;", 2, 3, 0);
    }

    private static void frozenNever() {
        checks.sentence("FREEZES: what = 0 hours, 1 who; NONE.");
        freezes("p1 9;", 1, NONE, NONE);
        freezes("p1 9;p1 0;", 2, NONE, NONE);
        freezes("p1 9;p1 0;p1 0;p1 0;p1 0;", 5, NONE, NONE);
        checks.due("nobody freezes(0)", new StoveFavours().freezes(0), NONE);
        checks.due("nobody freezes(1)", new StoveFavours().freezes(1), NONE);
    }

    private static void freezesWhat() {
        checks.sentence("FREEZES: what = 0 hours, 1 who; NONE. OUTSIDE.");
        StoveFavours x = checks.houseOf("p50 0;p9 3;", 2);
        checks.due("freezes(-1)", x.freezes(-1), OUTSIDE);
        checks.due("freezes(0)", x.freezes(0), 3);
        checks.due("freezes(1)", x.freezes(1), 1);
        checks.due("freezes(2)", x.freezes(2), OUTSIDE);
        checks.due("nobody freezes(-1)", new StoveFavours().freezes(-1), OUTSIDE);
        checks.due("nobody freezes(2)", new StoveFavours().freezes(2), OUTSIDE);
    }

    /** The whole row: its logs and all its hours. */
    private static void favour(StoveFavours x, int p, int n, int logs, int... row) {
        String call = "favour(" + p + ", " + n + ", ";
        checks.due(call + "-1)", x.favour(p, n, NONE), logs);
        for (int i = 0; i < n; i++) {
            checks.due(call + i + ")", x.favour(p, n, i), logs == NONE ? NONE : row[i]);
        }
    }

    private static void allWarm(StoveFavours x, int n, int logs, int... row) {
        String call = "allWarm(" + n + ", ";
        checks.due(call + "-1)", x.allWarm(n, NONE), logs);
        for (int i = 0; i < n; i++) {
            checks.due(call + i + ")", x.allWarm(n, i), logs == NONE ? NONE : row[i]);
        }
    }

    private static void favourHours() {
        checks.sentence("FAVOUR of a PERSON in n hours (1 .. 3):");
        StoveFavours x = checks.houseOf("p50 1;p50 1;p50 1;p50 1;d0 9 4;d1 1 1;" + DEAR + "s0 5 8;", 4);
        checks.due("favour(0, 0, -1)", x.favour(0, 0, NONE), OUTSIDE);
        favour(x, 1, 1, 1, 10);
        favour(x, 2, 1, NONE);
        favour(x, 2, 2, 2, 10, 10);
        favour(x, 3, 2, NONE);
        favour(x, 3, 3, 3, 10, 10, 10);
        checks.due("favour(0, 4, -1)", x.favour(0, 4, NONE), OUTSIDE);
    }

    private static void favourInTheLastHour() {
        checks.sentence("rows by which it is THE DARLING in the last hour,");
        StoveFavours x = checks.houseOf("p50 1;p50 1;d0 1 0;d1 9 4;" + DEAR + "s0 5 8;", 2);
        favour(x, 1, 1, 1, 1);
        favour(x, 1, 2, 1, 99, 1);
        favour(x, 1, 3, 1, 99, 99, 1);
        favour(x, 0, 3, 0, 99, 99, 99);
        // LAW 2 makes 1 in the first hour alone, so it is the first hour's doing
        StoveFavours early = checks.houseOf("p50 0;p5 0;p6 5;d0 0 2;d1 9 4;" + DEAR + "s0 5 8;", 3);
        favour(early, 1, 2, 0, 0, 99);
    }

    private static void favourLogsThereAre() {
        checks.sentence("no more LOGS used than there are:");
        String text = "p50 1;p50 1;p50 1;d0 9 4;d1 2 1;" + DEAR;
        favour(checks.houseOf(text + "s0 5 1;", 3), 1, 1, NONE);
        favour(checks.houseOf(text + "s0 5 2;", 3), 1, 1, 2, 10);
        favour(checks.houseOf(text + "s0 5 3;", 3), 2, 2, NONE);
        favour(checks.houseOf(text + "s0 5 4;", 3), 2, 2, 4, 10, 10);
        favour(checks.houseOf(text + "s0 5 4;", 3), 2, 3, 4, 99, 10, 10);
        favour(checks.houseOf("p50 1;p50 1;d0 0 0;d1 0 1;s0 5 0;", 2), 1, 1, 0, 1);
        favour(checks.houseOf("p50 1;p50 1;s0 5 0;", 2), 0, 3, 0, 99, 99, 99);
    }

    private static void favourFewestLogs() {
        checks.sentence("of these the one of fewest LOGS,");
        // 3 logs by one doing, 2 by two of them
        StoveFavours x = checks.houseOf("p50 1;p50 1;p50 1;d0 3 0;d1 1 1;" + DEAR + "s0 5 9;", 3);
        favour(x, 2, 1, 3, 2);
        favour(x, 2, 2, 2, 10, 10);
        favour(x, 2, 3, 2, 99, 10, 10);
        // the dearer one comes first by its number
        StoveFavours y = checks.houseOf("p50 1;p50 1;d0 2 0;d1 1 0;" + DEAR + "s0 5 9;", 2);
        favour(y, 1, 1, 1, 11);
    }

    private static void favourFewestDoings() {
        checks.sentence("then fewest DOINGS,");
        StoveFavours x = checks.houseOf("p50 1;p50 1;p50 1;d0 1 1;d1 2 0;" + DEAR + "s0 5 9;", 3);
        favour(x, 2, 2, 2, 99, 12);
        favour(x, 2, 3, 2, 99, 99, 12);
        // all for nothing: by LAW 1 of 0 twice, or by LAW 0 once
        StoveFavours y = checks.houseOf("p50 1;p50 1;p50 1;d0 0 1;d1 0 0;" + DEAR + "s0 5 9;", 3);
        favour(y, 2, 2, 0, 99, 12);
        favour(y, 0, 3, 0, 99, 99, 99);
        // LAW 2 makes 2 in the first hour alone; none, 0, 0 by LAW 1 is ahead of it as a row, but has two doings
        StoveFavours early = checks.houseOf("p50 0;p6 5;p5 0;d0 0 1;d1 0 2;s0 5 0;", 3);
        favour(early, 2, 3, 0, 10, 99, 99);
    }

    private static void favourDearest() {
        checks.sentence("no more LOGS used than there are:");
        String text = "p50 1;p50 1;p50 1;d0 9 4;d1 9 1;" + DEAR;
        favour(checks.houseOf(text + "s0 5 8;", 3), 1, 1, NONE);
        favour(checks.houseOf(text + "s0 5 9;", 3), 1, 1, 9, 10);
        favour(checks.houseOf(text + "s0 5 17;", 3), 2, 2, NONE);
        favour(checks.houseOf(text + "s0 5 18;", 3), 2, 3, 18, 99, 10, 10);
        favour(checks.houseOf("p5 1;p5 1;p5 1;p5 1;d0 9 4;d1 9 1;" + DEAR + "s0 5 27;", 4), 3, 3, 27, 10, 10, 10);
    }

    private static void favourNoneAheadOfAll() {
        checks.sentence("(hour by hour: none ahead of all,");
        StoveFavours x = checks.houseOf("p50 1;p50 1;d0 0 0;d1 9 4;" + DEAR + "s1 5 9;", 2);
        favour(x, 0, 1, 0, 0);
        favour(x, 0, 2, 0, 99, 0);
        favour(x, 0, 3, 0, 99, 99, 0);
        favour(x, 1, 2, 0, 99, 99);
    }

    private static void favourDoingByDoing() {
        checks.sentence("then DOING by DOING,");
        StoveFavours x = checks.houseOf("p50 1;p50 1;p50 1;d0 0 4;d1 0 1;d2 0 6;d3 0 0;d4 0 1;d5 0 4;s0 5 9;", 3);
        favour(x, 1, 1, 0, 10);
        favour(x, 2, 1, 0, 21);
        // a greater person of a lesser doing is ahead of a lesser person of a greater one
        StoveFavours y = checks.houseOf("p50 1;p50 1;p50 1;d0 0 0;d1 0 5;" + DEAR + "s0 5 9;", 3);
        favour(y, 2, 1, 0, 2);
    }

    private static void favourPersonByPerson() {
        checks.sentence("PERSON by PERSON):");
        StoveFavours x = checks.houseOf("p50 1;p50 1;p50 1;d0 9 4;d1 0 1;" + DEAR + "s0 5 9;", 3);
        favour(x, 1, 1, 0, 10);
        favour(x, 2, 2, 0, 10, 10);
        StoveFavours y = checks.houseOf("p50 1;p50 1;p50 1;d0 9 4;d1 0 6;" + DEAR + "s0 5 9;", 3);
        favour(y, 1, 1, 0, 10);
        favour(y, 2, 1, 0, 11);
        checks.due("law(1, 0)", y.law(1, 0), 6);
        favour(y, 2, 1, 0, 12);
    }

    private static void favourThing() {
        checks.sentence("LOGS; the i-th hour: 10 times the DOING and the PERSON, 99 none;");
        StoveFavours x = checks.houseOf("p5 1;p5 1;p5 1;p5 1;p5 1;d0 9 4;d1 9 4;d2 9 4;d3 9 4;d4 9 4;d5 4 0;s1 5 9;", 5);
        favour(x, 4, 2, 4, 99, 54);
        favour(x, 0, 2, 4, 99, 50);
        StoveFavours first = checks.houseOf("p5 1;p5 1;d0 4 0;s1 5 9;", 2);
        favour(first, 0, 1, 4, 0);
    }

    private static void favourNoRow() {
        checks.sentence("99 none; NONE.");
        StoveFavours x = checks.houseOf("p50 1;p50 1;s0 5 9;", 2);
        for (int n = 1; n <= 3; n++) {
            favour(x, 1, n, NONE);
            checks.due("favour(1, n, n)", x.favour(1, n, n), NONE);
        }
        favour(x, 0, 3, 0, 99, 99, 99);
    }

    private static void favourNoSuchHour() {
        checks.sentence("NONE (no such hour, too).");
        StoveFavours x = checks.houseOf("p50 1;p50 1;s0 5 9;", 2);
        for (int n = 1; n <= 3; n++) {
            checks.due("favour(0, n, n - 1)", x.favour(0, n, n - 1), 99);
            checks.due("favour(0, n, n)", x.favour(0, n, n), NONE);
            checks.due("favour(0, n, 99)", x.favour(0, n, 99), NONE);
            checks.due("favour(0, n, -2)", x.favour(0, n, -2), NONE);
        }
    }

    private static void allWarmHours() {
        checks.sentence("ALL WARM in n hours: likewise,");
        StoveFavours x = checks.houseOf("p50 0;p3 1;d0 1 0;s0 5 9;", 2);
        checks.due("allWarm(0, -1)", x.allWarm(0, NONE), OUTSIDE);
        allWarm(x, 1, 0, 99);
        allWarm(x, 2, 0, 99, 99);
        allWarm(x, 3, 1, 99, 99, 1);
        checks.due("allWarm(4, -1)", x.allWarm(4, NONE), OUTSIDE);
    }

    private static void allWarmBehindAny() {
        checks.sentence("so that nobody is FROZEN behind any.");
        // 1 would be frozen behind the second hour, and warm again behind the third
        StoveFavours x = checks.houseOf("p50 0;p2 1;d0 1 0;d1 9 4;" + DEAR + "s0 5 9;", 2);
        allWarm(x, 3, 1, 99, 1, 99);
        StoveFavours first = checks.houseOf("p50 0;p1 1;d0 1 0;d1 9 4;" + DEAR + "s0 5 9;", 2);
        allWarm(first, 1, 1, 1);
        allWarm(first, 2, 1, 1, 99);
        StoveFavours two = checks.houseOf("p50 0;p1 1;p1 1;d0 1 0;s0 5 9;", 3);
        allWarm(two, 1, NONE);
        allWarm(two, 3, NONE);
    }

    private static void allWarmFrozenNow() {
        checks.sentence("so that nobody is FROZEN behind any.");
        StoveFavours x = checks.houseOf("p50 0;p0 0;d0 1 0;d1 9 4;" + DEAR + "s0 5 9;", 2);
        allWarm(x, 1, 1, 1);
        allWarm(x, 3, 1, 1, 99, 99);
        allWarm(checks.houseOf("p0 9;p9 0;", 2), 2, 0, 99, 99);
        allWarm(checks.houseOf("p9 0;p0 0;", 2), 2, NONE);
    }

    private static void allWarmLikewise() {
        checks.sentence("ALL WARM in n hours: likewise,");
        String text = "p50 0;p1 1;d0 3 0;d1 2 1;d2 2 0;d3 9 4;d4 9 4;d5 9 4;";
        // no more logs than there are, the fewest, then the first
        allWarm(checks.houseOf(text + "s0 5 1;", 2), 1, NONE);
        allWarm(checks.houseOf(text + "s0 5 2;", 2), 1, 2, 10);
        allWarm(checks.houseOf(text + "s0 5 9;", 2), 2, 2, 10, 99);
        // fewest doings of as many logs: 1, 2, 1 is ahead of it as a row, but has three
        allWarm(checks.houseOf("p7 2;p4 3;p7 4;d0 0 0;d1 9 4;" + DEAR + "s0 2 5;", 3), 3, 0, 2, 1, 99);
        StoveFavours alone = checks.houseOf("p1 9;", 1);
        allWarm(alone, 3, 0, 99, 99, 99);
    }

    private static void allWarmNoSuchHour() {
        checks.sentence("ALL WARM: likewise. OUTSIDE, NOT: nobody.");
        StoveFavours x = checks.houseOf("p50 0;", 1);
        for (int n = 1; n <= 3; n++) {
            checks.due("allWarm(n, n - 1)", x.allWarm(n, n - 1), 99);
            checks.due("allWarm(n, n)", x.allWarm(n, n), NONE);
            checks.due("allWarm(n, -2)", x.allWarm(n, -2), NONE);
        }
        checks.due("nobody allWarm(3, -1)", new StoveFavours().allWarm(3, NONE), NOT);
        checks.due("nobody allWarm(4, -1)", new StoveFavours().allWarm(4, NONE), OUTSIDE);
    }

    private static void duel(StoveFavours x, int a, int b, int n, int result, int thing) {
        String call = "duel(" + a + ", " + b + ", " + n + ", ";
        checks.due(call + "0)", x.duel(a, b, n, 0), result);
        checks.due(call + "1)", x.duel(a, b, n, 1), thing);
    }

    private static void duelHours() {
        checks.sentence("DUEL of two in n hours (1 .. 4):");
        StoveFavours x = checks.houseOf("p50 1;p50 1;p50 1;d0 0 0;s2 5 0;", 3);
        checks.due("duel(0, 1, 0, 0)", x.duel(0, 1, 0, 0), OUTSIDE);
        duel(x, 0, 1, 1, 2, 0);
        duel(x, 0, 1, 4, 0, 0);
        checks.due("duel(0, 1, 5, 0)", x.duel(0, 1, 5, 0), OUTSIDE);
        checks.due("duel(0, 1, 4, -1)", x.duel(0, 1, 4, -1), OUTSIDE);
        checks.due("duel(0, 1, 4, 2)", x.duel(0, 1, 4, 2), OUTSIDE);
        // by LAW 1 it is two hours from 4 to 1, and 2 need not go the second of them
        StoveFavours round = checks.houseOf("p50 1;p50 1;p50 1;p50 1;p50 1;d0 0 1;s4 5 0;", 5);
        duel(round, 0, 2, 1, 2, 0);
        duel(round, 1, 2, 2, 1, 0);
    }

    private static void duelTurns() {
        checks.sentence("by turns, the first one's turn first,");
        StoveFavours x = checks.houseOf("p50 1;p50 1;p50 1;d0 9 4;d3 9 0;s2 5 0;", 3);
        duel(x, 0, 1, 1, 2, 3);
        duel(x, 0, 1, 2, 0, 0);
        duel(x, 0, 1, 3, 2, 0);
        duel(x, 0, 1, 4, 0, 0);
        duel(x, 1, 0, 3, 2, 0);
        duel(x, 2, 0, 1, 2, 0);
    }

    private static void duelItself() {
        checks.sentence("each does one DOING itself, or none");
        // by LAW 6 of 2 it is 0, of 0 it would be 1
        StoveFavours x = checks.houseOf("p50 1;p50 1;p50 1;d0 0 6;s0 5 0;", 3);
        duel(x, 1, 0, 1, 1, 0);
        duel(x, 0, 2, 1, 2, 1);
        duel(x, 2, 1, 1, 1, 0);
        StoveFavours all = checks.houseOf("p50 1;p50 1;d0 0 6;d1 0 6;d2 0 6;d3 0 6;d4 0 6;d5 0 6;s0 5 0;", 2);
        duel(all, 0, 1, 1, 2, 6);
        duel(all, 1, 0, 1, 0, 0);
    }

    private static void duelWarmth() {
        checks.sentence("each does one DOING itself, or none");
        // its hours warm and cool: had 0 taken it by LAW 2 in the first, 1 would be the coldest in the second
        StoveFavours x = checks.houseOf("p5 0;p6 1;p50 0;d0 0 2;s2 5 0;", 3);
        duel(x, 0, 1, 1, 2, 0);
        duel(x, 0, 1, 2, 1, 1);
        duel(x, 1, 0, 1, 1, 1);
        // of four hours each has its own warmth: by LAW 2 alone whoever it leaves is the coldest soon
        StoveFavours four = checks.houseOf("p9 4;p8 3;p7 9;d0 0 2;s0 3 0;", 3);
        duelsAsPlain(four, "p9 4;p8 3;p7 9;d0 0 2;s0 3 0;");
    }

    /** All duels of three, each hour's number, as PlainStove has them. */
    private static void duelsAsPlain(StoveFavours x, String text) {
        PlainStove plain = new PlainStove();
        for (int k = 0; k < text.length(); k++) {
            plain.feed(text.charAt(k));
        }
        plain.house();
        for (int k = 0; k < 36; k++) {
            int a = k % 3;
            int b = k / 3 % 3;
            int n = k / 9 + 1;
            if (a != b) {
                duel(x, a, b, n, plain.duel(a, b, n, 0), plain.duel(a, b, n, 1));
            }
        }
    }

    private static void duelLogs() {
        checks.sentence("(LOGS do not matter)");
        StoveFavours x = checks.houseOf("p50 1;p50 1;p50 1;d0 9 0;s2 5 0;", 3);
        duel(x, 0, 1, 1, 2, 0);
        duel(x, 0, 1, 2, 0, 0);
        checks.due("told(4)", x.told(4), 0);
    }

    private static void duelOutcome() {
        checks.sentence("2 the first one, 1 neither, 0 the other one, if both do their best;");
        StoveFavours stays = checks.houseOf("p50 1;p50 1;p50 1;s2 5 0;", 3);
        duel(stays, 0, 1, 4, 1, 0);
        duel(stays, 2, 1, 4, 2, 0);
        duel(stays, 0, 2, 4, 0, 0);
        // LAW 1 alone: the last one to choose takes the best of two
        StoveFavours next = checks.houseOf("p50 1;p50 1;p50 1;d0 0 1;s0 5 0;", 3);
        duel(next, 1, 2, 1, 2, 0);
        duel(next, 2, 1, 1, 1, 1);
        duel(next, 1, 2, 2, 1, 1);
        duel(next, 2, 0, 2, 1, 0);
    }

    private static void duelFirstThing() {
        checks.sentence("the first thing (DOINGS 0 on, behind all 6: none) of the first one by which it is so.");
        for (int e = 0; e < 6; e++) {
            StoveFavours x = checks.houseOf("p50 1;p50 1;d" + e + " 0 0;s1 5 0;", 2);
            duel(x, 0, 1, 1, 2, e);
            StoveFavours loser = checks.houseOf("p50 1;p50 1;d" + e + " 0 6;s1 5 0;", 2);
            duel(loser, 1, 0, 1, 2, e == 0 ? 1 : 0);
        }
        StoveFavours none = checks.houseOf("p50 1;p50 1;d0 0 1;d1 0 5;d2 0 6;d3 0 1;d4 0 5;d5 0 6;s0 5 0;", 2);
        duel(none, 0, 1, 1, 2, 6);
    }

    private static void lap(StoveFavours x, int rounds, int fair, int... hours) {
        checks.due("forEver(-1)", x.forEver(NONE), rounds);
        for (int p = 0; p < hours.length; p++) {
            checks.due("forEver(" + p + ")", x.forEver(p), hours[p]);
        }
        checks.due("fair()", x.fair(), fair);
    }

    private static void write(StoveFavours x, int... things) {
        for (int thing : things) {
            x.write(thing / 10, thing % 10);
        }
    }

    private static void forEverEmptyBook() {
        checks.sentence("NONE: not by then, an empty BOOK.");
        StoveFavours x = checks.houseOf("p50 1;p50 1;", 2);
        lap(x, NONE, NONE, NONE, NONE);
        write(x, 0);
        lap(x, 1, 1, 1, 0);
        checks.due("tear()", x.tear(), 1);
        lap(x, NONE, NONE, NONE, NONE);
    }

    private static void forEverNoneLeftOut() {
        checks.sentence("(each an hour, none of them left out) again and again, LOGS not mattering,");
        StoveFavours x = checks.houseOf("p50 1;p50 1;d0 9 0;d1 9 4;s0 5 0;", 2);
        write(x, 1, 10, 10, 0);
        lap(x, 1, 2, 1, 3);
        checks.due("judge(0)", x.judge(0), 0);
    }

    private static void forEverWarmth() {
        checks.sentence("WARMTH kept at 50 for all (LAW 2: the least PERSON):");
        StoveFavours x = checks.houseOf("p99 0;p1 9;p0 9;d0 0 2;d1 0 0;s2 20 0;", 3);
        write(x, 0);
        lap(x, 1, 1, 1, 0, 0);
        write(x, 11);
        lap(x, 1, 1, 1, 1, 0);
        checks.warmth(x, 99, 1, 0);
    }

    private static void forEverOrder() {
        checks.sentence("(ahead of the first round: by SINCE; those who never were alike)");
        // by LAW 3 those never yet come first: so 1, then whom it left longest ago
        StoveFavours x = checks.houseOf("p50 1;p50 1;p50 1;d0 0 3;d1 0 0;s1 5 0;", 3);
        x.act(1, 2);
        x.act(1, 0);
        x.act(1, 2);
        write(x, 0, 10);
        // 1 0, 2 0, 1 0: behind the third as behind the first round
        lap(x, 2, 1, 2, 1, 1);
        // all are alike, the darling at first, too: 0, 1, 2, 0, 1, 2
        StoveFavours y = checks.houseOf("p50 1;p50 1;p50 1;d0 0 3;s2 5 0;", 3);
        write(y, 0);
        lap(y, 3, 0, 1, 1, 1);
    }

    private static void forEverRounds() {
        checks.sentence("are as they were behind fewer rounds (none, too): how many rounds ago that was;");
        // the same darling as ahead of the first round, but the order is another one: two rounds, not one
        StoveFavours x = checks.houseOf("p50 1;p50 1;p50 1;d0 0 3;d1 0 0;s0 5 0;", 3);
        write(x, 0, 10);
        lap(x, 2, 1, 2, 1, 1);
        // as it was ahead of the first round: 0 behind 1
        StoveFavours y = checks.houseOf("p50 1;p50 1;d0 0 0;s0 5 0;", 2);
        y.act(0, 1);
        y.act(0, 0);
        write(y, 1, 0);
        lap(y, 1, 0, 1, 1);
        // five rounds, by LAW 1 of five
        StoveFavours five = checks.houseOf("p1 1;p1 1;p1 1;p1 1;p1 1;d0 0 1;s3 5 0;", 5);
        write(five, 0);
        lap(five, 5, 0, 1, 1, 1, 1, 1);
        // an untold LAW 4 keeps whom it likes, whoever does it
        StoveFavours tail = checks.houseOf("p1 1;p1 1;p1 1;d0 0 4;s0 5 0;", 3);
        tail.act(1, 0);
        write(tail, 0, 2, 1);
        lap(tail, 1, 3, 3, 0, 0);
    }

    private static void forEverOfOne() {
        checks.sentence("are as they were behind fewer rounds (none, too): how many rounds ago that was;");
        StoveFavours alone = checks.houseOf("p50 1;", 1);
        write(alone, 0, 10, 20);
        lap(alone, 1, 0, 3);
        checks.due("sit(1)", alone.sit(1), 0);
        lap(alone, 1, 0, 3);
    }

    private static void forEverPersons() {
        checks.sentence("FOR EVER: p = NONE how many rounds, else hours of a PERSON; NONE.");
        StoveFavours x = checks.houseOf("p50 1;p50 1;d0 0 0;", 2);
        write(x, 1, 1, 0);
        checks.due("forEver(-2)", x.forEver(-2), UNKNOWN);
        checks.due("forEver(-1)", x.forEver(-1), 1);
        checks.due("forEver(0)", x.forEver(0), 1);
        checks.due("forEver(1)", x.forEver(1), 2);
        checks.due("forEver(2)", x.forEver(2), UNKNOWN);
    }

    private static void forEverLongest() {
        checks.sentence("as soon as (behind 100 rounds at most)");
        // as behind the first round again behind the 21st: no book of LAWS 1, 3, 5 goes on longer without coming round
        StoveFavours x = checks.houseOf("p1 1;p1 1;p1 1;p1 1;p1 1;d1 0 1;d3 0 3;d5 0 5;s0 5 0;", 5);
        checks.due("sit(1)", x.sit(1), 0);
        write(x, 14, 34, 14, 34, 14, 34, 34, 54, 34, 54, 34, 34);
        lap(x, 20, 0, 48, 48, 48, 48, 48);
    }

    private static void forEverFullBook() {
        checks.sentence("again and again,");
        StoveFavours x = checks.houseOf("p1 1;p1 1;p1 1;p1 1;p1 1;d1 0 1;d3 0 3;d5 0 5;s0 5 0;", 5);
        checks.due("sit(1)", x.sit(1), 0);
        write(x, 14, 34, 14, 34, 14, 34, 34, 54, 34, 54, 34, 34, 14, 34, 34, 34, 34, 34, 34, 34);
        checks.due("told(8)", x.told(8), 20);
        int rounds = x.forEver(NONE);
        int hours = 0;
        for (int p = 0; p < 5; p++) {
            hours += x.forEver(p);
        }
        checks.due("all hours of the rounds", hours, 20L * rounds);
        StoveFavours fixed = checks.houseOf("p1 1;p1 1;d0 0 0;s0 5 0;", 2);
        for (int k = 0; k < 20; k++) {
            fixed.write(0, k < 19 ? 0 : 1);
        }
        lap(fixed, 1, 18, 19, 1);
    }

    private static void fairSpread() {
        checks.sentence("FAIR: the greatest less the least of these.");
        StoveFavours x = checks.houseOf("p50 1;p50 1;p50 1;d0 0 0;", 3);
        checks.due("fair(), no book", x.fair(), NONE);
        write(x, 0, 1, 2);
        checks.due("fair()", x.fair(), 0);
        write(x, 1, 1);
        checks.due("fair(), 1 3 1", x.fair(), 2);
        write(x, 2, 2, 2, 2, 2, 2);
        checks.due("fair(), 1 3 7", x.fair(), 6);
        checks.due("tear()", x.tear(), 11);
        for (int k = 0; k < 20; k++) {
            x.write(0, 2);
        }
        checks.due("fair(), 0 0 20", x.fair(), 20);
    }

    private static void leftPlaces() {
        checks.sentence("how many; the i-th (10 times the DOING and the PERSON; rising); NONE.");
        StoveFavours x = checks.houseOf("p50 1;p50 1;d0 0 0;d1 0 6;d2 0 1;d3 0 5;d4 0 0;d5 0 6;s0 5 0;", 2);
        int[] due = {1, 10, 20, 21, 30, 31, 41, 50};
        checks.due("left(1, -1)", x.left(1, NONE), due.length);
        for (int i = 0; i < due.length; i++) {
            checks.due("left(1, " + i + ")", x.left(1, i), due[i]);
        }
        checks.due("left(1, 8)", x.left(1, 8), NONE);
        checks.due("left(1, -2)", x.left(1, -2), NONE);
        checks.due("left(2, -1)", x.left(2, NONE), UNKNOWN);
        checks.due("left(-1, -1)", x.left(-1, NONE), UNKNOWN);
        StoveFavours stays = checks.houseOf("p50 1;p50 1;p50 1;p50 1;p50 1;s4 5 0;", 5);
        checks.due("left(0, -1)", stays.left(0, NONE), 0);
        checks.due("left(0, 0)", stays.left(0, 0), NONE);
        checks.due("left(4, -1)", stays.left(4, NONE), 30);
        checks.due("left(4, 0)", stays.left(4, 0), 0);
        checks.due("left(4, 29)", stays.left(4, 29), 54);
        checks.due("left(4, 30)", stays.left(4, 30), NONE);
    }

    private static void leftLogs() {
        checks.sentence("(LOGS not mattering): how many;");
        StoveFavours x = checks.houseOf("p50 1;p50 1;d0 9 0;s1 5 0;", 2);
        checks.due("left(0, -1)", x.left(0, NONE), 1);
        checks.due("left(0, 0)", x.left(0, 0), 0);
        checks.due("doers(0)", x.doers(0), 1);
        checks.due("left(1, -1)", x.left(1, NONE), 11);
    }

    private static void doersSet() {
        checks.sentence("DOERS: all who could have done one (a SET).");
        StoveFavours x = checks.houseOf("p50 1;p50 1;p50 1;p50 1;p50 1;d0 0 0;d1 0 0;d2 0 0;d3 0 0;d4 0 0;d5 0 0;s4 5 0;", 5);
        for (int p = 0; p < 5; p++) {
            checks.due("doers(" + p + ")", x.doers(p), 1 << p);
        }
        checks.due("law(5, 6)", x.law(5, 6), 0);
        checks.due("doers(0)", x.doers(0), 17);
        checks.due("law(5, 4)", x.law(5, 4), 6);
        checks.due("doers(4)", x.doers(4), 31);
        checks.due("doers(5)", x.doers(5), UNKNOWN);
        checks.due("doers(-1)", x.doers(-1), UNKNOWN);
        StoveFavours stays = checks.houseOf("p50 1;p50 1;s1 5 0;", 2);
        checks.due("doers(0) of none", stays.doers(0), 0);
        checks.due("doers(1) of all", stays.doers(1), 3);
    }

    private static void chairHours() {
        checks.sentence("CHAIR of a PERSON: in how many hours it is FROZEN, if it is never THE DARLING (0: it is; NONE: never).");
        StoveFavours x = checks.houseOf("p0 9;p0 0;p1 0;p99 1;p99 9;s3 5 0;", 5);
        int[] due = {0, 0, NONE, 99, 11};
        for (int p = 0; p < 5; p++) {
            checks.due("chair(" + p + ")", x.chair(p), due[p]);
        }
        checks.due("chair(5)", x.chair(5), UNKNOWN);
        checks.due("chair(-1)", x.chair(-1), UNKNOWN);
        StoveFavours y = checks.houseOf("p9 9;p10 9;p8 9;p1 1;p18 9;s0 5 0;", 5);
        int[] hours = {1, 2, 1, 1, 2};
        for (int p = 0; p < 5; p++) {
            checks.due("chair(" + p + ")", y.chair(p), hours[p]);
        }
    }
}
