import java.math.BigInteger;

/** Section 2 of the document, its draws, and promises 8 to 13: each sentence that names an edge, by itself. */
public final class HoursEdgesTest {
    private static final int NONE = StoveFavours.NONE, UNKNOWN = StoveFavours.UNKNOWN, OUTSIDE = StoveFavours.OUTSIDE;
    private static final int NOT = StoveFavours.NOT, FULL = StoveFavours.FULL;
    static final Checks checks = new Checks("HoursEdgesTest");

    public static void main(String[] args) {
        sinceAtFirst();
        sinceHours();
        warmest();
        coldest();
        frozenTillWarmer();
        whoDidIt();
        nextBehindDarling();
        leastWarmth();
        longestAgo();
        itStays();
        aheadOfDarling();
        nextBehindDoer();
        allLawsOfOne();
        doingComesFirst();
        thenWarmth();
        logsFewer();
        logsNeverGrow();
        hoursFromNought();
        actCosts();
        sitHours();
        driftHours();
        lastHourOfAct();
        lastHourOfSit();
        lastHourOfDrift();
        stackBounds();
        stackAtMost();
        lawBounds();
        undoBounds();
        undoNotSoMany();
        seedRound();
        drawsOfEight();
        drawMadeWithoutLogs();
        drawWithLogs();
        thirtyKept();
        sinceTextOrImage();
        undoneLogsAndLaws();
        undoneLogsBetween();
        notedStays();
        seedStays();
        checks.finish();
    }

    private static void sinceAtFirst() {
        checks.sentence("(NONE: never yet; of who is THE DARLING at first, too, till an hour has gone by).");
        StoveFavours x = checks.houseOf("p50 1;p50 1;p50 1;d0 0 0;s1 5 5;", 3);
        checks.since(x, NONE, NONE, NONE);
        checks.due("sit(1)", x.sit(1), 1);
        checks.since(x, NONE, 0, NONE);
        StoveFavours y = checks.houseOf("p50 1;p50 1;p50 1;d0 0 0;s1 5 5;", 3);
        checks.due("act(0, 0)", y.act(0, 0), 0);
        checks.since(y, 0, NONE, NONE);
    }

    private static void sinceHours() {
        checks.sentence("SINCE of a PERSON: the hour in which it was THE DARLING last");
        StoveFavours x = checks.houseOf("p50 1;p50 1;p50 1;d0 0 0;s1 5 5;", 3);
        checks.due("sit(3)", x.sit(3), 1);
        checks.since(x, NONE, 2, NONE);
        checks.due("act(0, 2)", x.act(0, 2), 2);
        checks.since(x, NONE, 2, 3);
        checks.due("sit(99)", x.sit(99), 2);
        checks.since(x, NONE, 2, 102);
    }

    private static void warmest() {
        checks.sentence("WARMTH is 0 to 99;");
        int[][] rows = {{94, 5, 99}, {95, 5, 99}, {98, 1, 99}, {99, 1, 99}, {99, 20, 99}, {79, 20, 99}, {80, 20, 99}, {78, 20, 98}};
        for (int[] row : rows) {
            StoveFavours x = checks.houseOf("p" + row[0] + " 9;s0 " + row[1] + " 0;", 1);
            checks.due("sit(1)", x.sit(1), 0);
            checks.warmth(x, row[2]);
            checks.due("sit(99)", x.sit(99), 0);
            checks.warmth(x, 99);
        }
    }

    private static void coldest() {
        checks.sentence("WARMTH is 0 to 99;");
        StoveFavours x = checks.houseOf("p50 9;p9 9;p8 9;p10 9;p0 9;", 5);
        checks.due("sit(1)", x.sit(1), 0);
        checks.warmth(x, 55, 0, 0, 1, 0);
        checks.due("sit(1)", x.sit(1), 0);
        checks.warmth(x, 60, 0, 0, 0, 0);
    }

    private static void frozenTillWarmer() {
        checks.sentence("at 0 one is FROZEN (till it is warmer).");
        StoveFavours x = checks.houseOf("p2 1;p50 1;p0 0;d0 0 0;s1 1 0;", 3);
        checks.due("told(6)", x.told(6), 4);
        checks.due("sit(1)", x.sit(1), 1);
        checks.due("told(6) at WARMTH 1", x.told(6), 4);
        checks.due("sit(1)", x.sit(1), 1);
        checks.due("told(6) at WARMTH 0", x.told(6), 5);
        checks.due("act(0, 0)", x.act(0, 0), 0);
        checks.due("told(6) warmer", x.told(6), 4);
        checks.due("act(0, 2)", x.act(0, 2), 2);
        checks.due("told(6) again", x.told(6), 1);
    }

    private static void whoDidIt() {
        checks.sentence("0 who did it;");
        StoveFavours x = checks.houseOf("p9 0;p9 0;p9 0;p9 0;p9 0;d0 0 0;s2 1 0;", 5);
        checks.acts(x, new int[][] {{0, 0, 0}, {0, 4, 4}, {0, 4, 4}, {0, 1, 1}});
    }

    private static void nextBehindDarling() {
        checks.sentence("1 the next one by number behind THE DARLING (round);");
        StoveFavours x = checks.houseOf("p9 0;p9 0;p9 0;d0 0 1;s0 1 0;", 3);
        checks.acts(x, new int[][] {{0, 2, 1}, {0, 2, 2}, {0, 2, 0}, {0, 0, 1}});
        StoveFavours five = checks.houseOf("p9 0;p9 0;p9 0;p9 0;p9 0;d0 0 1;s3 1 0;", 5);
        checks.acts(five, new int[][] {{0, 2, 4}, {0, 2, 0}});
    }

    private static void leastWarmth() {
        checks.sentence("2 who has least WARMTH (of like ones the least);");
        StoveFavours x = checks.houseOf("p9 0;p7 0;p8 0;p7 0;p6 0;d0 0 2;s0 1 0;", 5);
        // 4 has 6, then 7 as 1 and 3, then these one by one
        checks.acts(x, new int[][] {{0, 0, 4}, {0, 0, 1}, {0, 0, 3}, {0, 0, 4}, {0, 0, 1}, {0, 0, 2}, {0, 0, 3}, {0, 0, 4}, {0, 0, 0}});
        StoveFavours frozen = checks.houseOf("p1 1;p0 0;p0 0;d0 0 2;s2 20 0;", 3);
        checks.acts(frozen, new int[][] {{0, 0, 1}, {0, 0, 0}, {0, 0, 2}});
        StoveFavours warm = checks.houseOf("p99 0;p99 0;d0 0 2;s1 20 0;", 2);
        checks.acts(warm, new int[][] {{0, 1, 0}, {0, 1, 0}});
    }

    private static void longestAgo() {
        checks.sentence("3 who was THE DARLING longest ago, never ahead of all (of like ones the least);");
        StoveFavours x = checks.houseOf("p9 0;p9 0;p9 0;p9 0;d0 0 3;d1 0 0;s3 1 0;", 4);
        checks.acts(x, new int[][] {{1, 2, 2}, {0, 2, 0}, {0, 2, 1}, {0, 2, 3}, {0, 2, 2}, {0, 2, 0}, {1, 1, 1}, {0, 1, 3}, {0, 1, 2}});
        // the first darling has never been it, till an hour has gone by
        StoveFavours first = checks.houseOf("p9 0;p9 0;d0 0 3;s0 1 0;", 2);
        checks.acts(first, new int[][] {{0, 1, 0}, {0, 1, 1}, {0, 1, 0}});
        StoveFavours sat = checks.houseOf("p9 0;p9 0;d0 0 3;s0 1 0;", 2);
        checks.due("sit(1)", sat.sit(1), 0);
        checks.due("act(0, 0)", sat.act(0, 0), 1);
    }

    private static void itStays() {
        checks.sentence("4 it stays;");
        StoveFavours x = checks.houseOf("p9 0;p9 0;p9 0;d0 0 4;s1 1 0;", 3);
        checks.acts(x, new int[][] {{0, 0, 1}, {0, 2, 1}, {0, 1, 1}});
        checks.since(x, NONE, 2, NONE);
    }

    private static void aheadOfDarling() {
        checks.sentence("5 the one ahead of THE DARLING by number (round);");
        StoveFavours x = checks.houseOf("p9 0;p9 0;p9 0;d0 0 5;s1 1 0;", 3);
        checks.acts(x, new int[][] {{0, 1, 0}, {0, 1, 2}, {0, 1, 1}, {0, 2, 0}});
        StoveFavours five = checks.houseOf("p9 0;p9 0;p9 0;p9 0;p9 0;d0 0 5;s0 1 0;", 5);
        checks.acts(five, new int[][] {{0, 2, 4}, {0, 2, 3}});
    }

    private static void nextBehindDoer() {
        checks.sentence("6 the next one behind who did it (round).");
        StoveFavours x = checks.houseOf("p9 0;p9 0;p9 0;d0 0 6;s1 1 0;", 3);
        checks.acts(x, new int[][] {{0, 0, 1}, {0, 1, 2}, {0, 2, 0}, {0, 2, 0}});
        StoveFavours five = checks.houseOf("p9 0;p9 0;p9 0;p9 0;p9 0;d0 0 6;s0 1 0;", 5);
        checks.acts(five, new int[][] {{0, 3, 4}, {0, 4, 0}});
    }

    private static void allLawsOfOne() {
        checks.sentence("LAWS, of a DOING of a PERSON, whom it likes then:");
        for (int k = 0; k <= 6; k++) {
            StoveFavours x = checks.houseOf("p9 0;d0 0 " + k + ";", 1);
            checks.due("one alone, LAW " + k, x.act(0, 0), 0);
            checks.due("one alone, LAW " + k, x.act(0, 0), 0);
        }
    }

    private static void doingComesFirst() {
        checks.sentence("first the DOING that is told, if any (LOGS are fewer by what it costs), changes THE DARLING;");
        // had the hour's warmth come first, 0 would have 6 and 1 the least
        StoveFavours x = checks.houseOf("p5 0;p6 1;d0 3 2;s0 5 9;", 2);
        checks.due("act(0, 1)", x.act(0, 1), 0);
        checks.told(x, 2, 0, 1, 0, 6);
        // had SINCE come first, 0 would not be among those never yet
        StoveFavours y = checks.houseOf("p5 0;p6 1;d0 3 3;s0 5 9;", 2);
        checks.due("act(0, 1)", y.act(0, 1), 0);
    }

    private static void thenWarmth() {
        checks.sentence("then THE DARLING (SINCE is this hour) is G warmer; all others are COLDER.");
        StoveFavours x = checks.houseOf("p50 3;p50 4;p50 0;d0 0 0;s0 7 0;", 3);
        checks.due("act(0, 1)", x.act(0, 1), 1);
        checks.warmth(x, 47, 57, 50);
        checks.since(x, NONE, 0, NONE);
        checks.due("sit(2)", x.sit(2), 1);
        checks.warmth(x, 41, 71, 50);
        checks.since(x, NONE, 2, NONE);
    }

    private static void logsFewer() {
        checks.sentence("(LOGS are fewer by what it costs)");
        StoveFavours x = checks.houseOf("p50 3;d0 9 0;d1 0 0;s0 7 19;", 1);
        checks.due("act(0, 0)", x.act(0, 0), 0);
        checks.due("told(4)", x.told(4), 10);
        checks.due("act(1, 0)", x.act(1, 0), 0);
        checks.due("told(4)", x.told(4), 10);
        checks.due("act(2, 0), untold", x.act(2, 0), 0);
        checks.due("told(4)", x.told(4), 9);
        checks.due("act(0, 0)", x.act(0, 0), 0);
        checks.due("told(4)", x.told(4), 0);
    }

    private static void logsNeverGrow() {
        checks.sentence("LOGS never grow, but by stack().");
        StoveFavours x = checks.houseOf("p50 3;p50 3;d0 1 2;d3 0 1;s0 7 40;", 2);
        int logs = 40;
        for (int k = 0; k < 40; k++) {
            x.drift(3);
            x.sit(1);
            checks.due("LOGS fewer or as many", x.told(4) <= logs && x.told(4) >= 0 ? 1 : 0, 1);
            logs = x.told(4);
        }
        checks.due("stack(1)", x.stack(1), logs + 1);
    }

    private static void hoursFromNought() {
        checks.sentence("Hours are counted from 0.");
        StoveFavours x = checks.houseOf("p50 3;p50 3;", 2);
        checks.due("told(2)", x.told(2), 0);
        checks.due("act(0, 0)", x.act(0, 0), 0);
        checks.due("told(2)", x.told(2), 1);
        checks.due("sit(1)", x.sit(1), 0);
        checks.due("told(2)", x.told(2), 2);
        x.drift(1);
        checks.due("told(2)", x.told(2), 3);
    }

    private static void actCosts() {
        checks.sentence("NOT: not so many LOGS;");
        StoveFavours x = checks.houseOf("p50 3;p50 3;d0 3 0;d1 4 0;d2 0 0;s0 7 3;", 2);
        checks.due("act(1, 1), 4 of 3", x.act(1, 1), NOT);
        checks.due("act(0, 1), 3 of 3", x.act(0, 1), 1);
        checks.due("told(4)", x.told(4), 0);
        checks.due("act(3, 0), 1 of 0", x.act(3, 0), NOT);
        checks.due("act(2, 0), 0 of 0", x.act(2, 0), 0);
        checks.due("told(2)", x.told(2), 2);
    }

    private static void sitHours() {
        checks.sentence("n HOURS (1 .. 99) without any: THE DARLING.");
        StoveFavours x = checks.houseOf("p50 3;p50 3;s1 7 3;", 2);
        checks.due("sit(0)", x.sit(0), OUTSIDE);
        checks.due("sit(1)", x.sit(1), 1);
        checks.due("told(2)", x.told(2), 1);
        checks.due("sit(99)", x.sit(99), 1);
        checks.due("told(2)", x.told(2), 100);
        checks.due("sit(100)", x.sit(100), OUTSIDE);
        checks.due("told(2)", x.told(2), 100);
    }

    private static void driftHours() {
        checks.sentence("n hours BY DRAWS (1 .. 99): THE DARLING.");
        StoveFavours x = checks.houseOf("p50 3;p50 3;s1 7 3;", 2);
        checks.due("drift(0)", x.drift(0), OUTSIDE);
        checks.due("drift(1)", x.drift(1), 1);
        checks.due("told(2)", x.told(2), 1);
        checks.due("drift(99)", x.drift(99), 1);
        checks.due("told(2)", x.told(2), 100);
        checks.due("drift(100)", x.drift(100), OUTSIDE);
        checks.due("told(2)", x.told(2), 100);
    }

    /** An object in hour 90000: no 512 calls reach it, so what is said of it is said beyond them. */
    private static StoveFavours late() {
        StoveFavours x = checks.houseOf("p50 3;p50 3;d0 0 0;s1 7 3;", 2);
        for (int k = 0; k < 909; k++) {
            x.sit(99);
        }
        x.sit(9);
        checks.due("told(2)", x.told(2), 90000);
        return x;
    }

    private static void lastHourOfAct() {
        checks.sentence("NOT: not so many LOGS; FULL: the hour is above 90000 (as it is called).");
        StoveFavours x = late();
        checks.due("act(0, 0) in hour 90000", x.act(0, 0), 0);
        checks.due("act(0, 0) in hour 90001", x.act(0, 0), FULL);
        checks.due("told(2)", x.told(2), 90001);
    }

    private static void lastHourOfSit() {
        checks.sentence("n HOURS (1 .. 99) without any: THE DARLING. OUTSIDE, NOT: nobody; FULL: the hour is above 90000 (as it is called).");
        StoveFavours x = late();
        checks.due("sit(99) in hour 90000", x.sit(99), 1);
        checks.due("sit(1) in hour 90099", x.sit(1), FULL);
        checks.due("told(2)", x.told(2), 90099);
    }

    private static void lastHourOfDrift() {
        checks.sentence("n hours BY DRAWS (1 .. 99): THE DARLING. OUTSIDE, NOT: nobody; FULL: the hour is above 90000 (as it is called).");
        StoveFavours x = late();
        checks.due("drift(99) in hour 90000 is no refusal", x.drift(99) >= 0 ? 1 : 0, 1);
        int seed = x.seed(0);
        x.seed(seed);
        checks.due("drift(1) in hour 90099", x.drift(1), FULL);
        checks.due("told(2)", x.told(2), 90099);
        checks.due("the seed", x.seed(0), seed);
    }

    private static void stackBounds() {
        checks.sentence("LOGS are n more (0 .. 999;");
        StoveFavours x = checks.houseOf("p50 3;s0 7 0;", 1);
        checks.due("stack(-1)", x.stack(-1), OUTSIDE);
        checks.due("stack(0)", x.stack(0), 0);
        checks.due("stack(1)", x.stack(1), 1);
        checks.due("stack(999)", x.stack(999), 1000);
        checks.due("stack(1000)", x.stack(1000), OUTSIDE);
        checks.due("told(4)", x.told(4), 1000);
    }

    private static void stackAtMost() {
        checks.sentence("9999 at most)");
        StoveFavours x = checks.houseOf("p50 3;d0 9 0;s0 7 7;", 1);
        for (int k = 1; k <= 10; k++) {
            checks.due("stack(999)", x.stack(999), 7 + 999 * k > 9999 ? 9999 : 7 + 999 * k);
        }
        checks.due("told(4)", x.told(4), 9997);
        checks.due("stack(2)", x.stack(2), 9999);
        checks.due("stack(0)", x.stack(0), 9999);
        checks.due("stack(1)", x.stack(1), 9999);
        checks.due("stack(999)", x.stack(999), 9999);
        checks.due("told(4)", x.told(4), 9999);
        checks.due("act(0, 0)", x.act(0, 0), 0);
        checks.due("stack(10), 9 are missing", x.stack(10), 9999);
    }

    private static void lawBounds() {
        checks.sentence("LAW of a DOING becomes k (0 .. 6): what it was.");
        StoveFavours x = checks.houseOf("p50 3;d0 1 6;", 1);
        checks.due("law(0, 0)", x.law(0, 0), 6);
        checks.due("law(0, 6)", x.law(0, 6), 0);
        checks.due("law(0, 6)", x.law(0, 6), 6);
        checks.due("law(0, 7)", x.law(0, 7), UNKNOWN);
        checks.due("law(0, -1)", x.law(0, -1), UNKNOWN);
        checks.due("law(5, 1), untold", x.law(5, 1), 4);
        checks.due("law(6, 1)", x.law(6, 1), UNKNOWN);
        checks.due("law(-1, 1)", x.law(-1, 1), UNKNOWN);
        checks.due("doing(0, 1)", x.doing(0, 1), 6);
        checks.due("doing(5, 1)", x.doing(5, 1), 1);
        checks.due("nobody law(5, 6)", new StoveFavours().law(5, 6), 4);
    }

    private static void undoBounds() {
        checks.sentence("The n latest hours (1 .. 30) are undone: the hour.");
        StoveFavours x = checks.houseOf("p50 3;", 1);
        checks.due("sit(99)", x.sit(99), 0);
        checks.due("undo(0)", x.undo(0), OUTSIDE);
        checks.due("undo(31)", x.undo(31), OUTSIDE);
        checks.due("undo(1)", x.undo(1), 98);
        checks.due("sit(1)", x.sit(1), 0);
        checks.due("undo(30)", x.undo(30), 69);
        checks.due("told(2)", x.told(2), 69);
    }

    private static void undoNotSoMany() {
        checks.sentence("NOT: not so many.");
        StoveFavours x = checks.houseOf("p50 3;", 1);
        checks.due("undo(1) of 0", x.undo(1), NOT);
        checks.due("sit(2)", x.sit(2), 0);
        checks.due("undo(3) of 2", x.undo(3), NOT);
        checks.due("told(9)", x.told(9), 2);
        checks.due("undo(2) of 2", x.undo(2), 0);
        checks.due("undo(1) of 0", x.undo(1), NOT);
        checks.due("sit(29)", x.sit(29), 0);
        checks.due("undo(30) of 29", x.undo(30), NOT);
        checks.due("undo(29) of 29", x.undo(29), 0);
    }

    private static BigInteger next(BigInteger seed) {
        return seed.multiply(BigInteger.valueOf(1103515245)).add(BigInteger.valueOf(12345)).mod(BigInteger.TWO.pow(31));
    }

    private static int draw(BigInteger seed, int n) {
        return seed.divide(BigInteger.valueOf(65536)).mod(BigInteger.valueOf(n)).intValue();
    }

    /** The seed of one hour by draws from this seed on. */
    private static BigInteger behindHour(BigInteger seed) {
        BigInteger behind = next(seed);
        return draw(behind, 8) < 6 ? next(behind) : behind;
    }

    private static void seedRound() {
        checks.sentence("THE SEED (0 at first: each DRAW it becomes it times 1103515245 and 12345, left over by 2 to the 31;");
        StoveFavours x = checks.houseOf("p50 3;", 1);
        checks.due("drift(1)", x.drift(1), 0);
        checks.due("the seed behind 0", x.seed(0), behindHour(BigInteger.ZERO).intValue());
        for (int seed : new int[] {1, 2, 3, 65535, 65536, 1 << 30, Integer.MAX_VALUE - 1, Integer.MAX_VALUE}) {
            x.seed(seed);
            checks.due("drift(1)", x.drift(1), 0);
            checks.due("the seed behind " + seed, x.seed(0), behindHour(BigInteger.valueOf(seed)).intValue());
        }
    }

    /** The least seed whose first draw of 8 is this one. */
    private static int seedOf(int eighth, int person, int people) {
        for (int seed = 0; seed < 100000; seed++) {
            BigInteger first = next(BigInteger.valueOf(seed));
            if (draw(first, 8) == eighth && draw(next(first), people) == person) {
                return seed;
            }
        }
        checks.due("a seed for " + eighth + " and " + person, 0, 1);
        return 0;
    }

    private static void drawsOfEight() {
        checks.sentence("a DRAW of 8: below 6: that DOING by a DRAW of PEOPLE");
        for (int eighth = 0; eighth < 8; eighth++) {
            for (int p = 0; p < 3; p++) {
                StoveFavours x = checks.houseOf("p50 3;p50 3;p50 3;d0 0 0;d1 1 0;d2 2 0;d3 3 0;d4 4 0;d5 5 0;s1 5 20;", 3);
                int seed = seedOf(eighth, p, 3);
                x.seed(seed);
                checks.due("drift(1), drawn " + eighth + " and " + p, x.drift(1), eighth < 6 ? p : 1);
                checks.due("told(4)", x.told(4), eighth < 6 ? 20 - eighth : 20);
                checks.due("the seed", x.seed(0), behindHour(BigInteger.valueOf(seed)).intValue());
                checks.due("told(2)", x.told(2), 1);
            }
        }
    }

    private static void drawMadeWithoutLogs() {
        checks.sentence("(made whether there are LOGS or not)");
        for (int e = 0; e < 6; e++) {
            StoveFavours x = checks.houseOf("p50 3;p50 3;d0 9 0;d1 9 0;d2 9 0;d3 9 0;d4 9 0;d5 9 0;s1 5 8;", 2);
            int seed = seedOf(e, 0, 2);
            x.seed(seed);
            checks.due("drift(1), too dear", x.drift(1), 1);
            checks.told(x, 2, 0, 1, 1, 8);
            checks.warmth(x, 47, 55);
            checks.due("the seed behind two draws", x.seed(0), next(next(BigInteger.valueOf(seed))).intValue());
        }
    }

    private static void drawWithLogs() {
        checks.sentence("if there are LOGS for it; else none.");
        StoveFavours x = checks.houseOf("p50 3;p50 3;d2 9 0;s1 5 9;", 2);
        int seed = seedOf(2, 0, 2);
        x.seed(seed);
        checks.due("drift(1), 9 of 9", x.drift(1), 0);
        checks.due("told(4)", x.told(4), 0);
        x.seed(seedOf(2, 1, 2));
        checks.due("drift(1), 9 of 0", x.drift(1), 0);
        checks.due("told(4)", x.told(4), 0);
        checks.due("stack(8)", x.stack(8), 8);
        x.seed(seedOf(2, 1, 2));
        checks.due("drift(1), 9 of 8", x.drift(1), 0);
        checks.due("told(4)", x.told(4), 8);
    }

    private static void thirtyKept() {
        checks.sentence("(30 at most are kept)");
        StoveFavours x = checks.houseOf("p99 1;p0 0;s1 1 0;", 2);
        for (int k = 1; k <= 29; k++) {
            x.sit(1);
        }
        checks.due("told(9) behind 29", x.told(9), 29);
        x.sit(1);
        checks.due("told(9) behind 30", x.told(9), 30);
        x.sit(1);
        checks.due("told(9) behind 31", x.told(9), 30);
        checks.due("undo(30)", x.undo(30), 1);
        checks.warmth(x, 98, 1);
        checks.due("undo(1)", x.undo(1), NOT);
        // round the end once more, from another place
        checks.due("sit(47)", x.sit(47), 1);
        for (int back = 1; back <= 30; back++) {
            checks.due("undo(1)", x.undo(1), 48 - back);
            checks.warmth(x, 99 - 48 + back, 48 - back);
        }
        checks.due("undo(1)", x.undo(1), NOT);
    }

    private static void sinceTextOrImage() {
        checks.sentence("UNDONE: the latest hours since the text or IMAGE");
        StoveFavours x = checks.houseOf("p50 1;", 1);
        checks.due("sit(3)", x.sit(3), 0);
        checks.due("keep(0)", x.keep(0), 1);
        checks.due("undo(1) behind keep()", x.undo(1), NOT);
        checks.due("sit(2)", x.sit(2), 0);
        checks.due("told(9)", x.told(9), 2);
        checks.due("undo(3)", x.undo(3), NOT);
        checks.due("goBack(0)", x.goBack(0), 1);
        checks.due("undo(1) behind goBack()", x.undo(1), NOT);
        checks.due("sit(1)", x.sit(1), 0);
        checks.feedAll(x, "p50 1;");
        checks.due("house()", x.house(), 1);
        checks.due("undo(1) behind house()", x.undo(1), NOT);
    }

    private static void undoneLogsAndLaws() {
        checks.sentence("with all that was done since (LOGS, LAWS;");
        StoveFavours x = checks.houseOf("p50 1;p40 2;d0 3 0;s0 5 20;", 2);
        checks.due("act(0, 1)", x.act(0, 1), 1);
        checks.due("stack(100)", x.stack(100), 117);
        checks.due("law(3, 2)", x.law(3, 2), 4);
        checks.due("undo(1)", x.undo(1), 0);
        checks.told(x, 2, 0, 0, 0, 20);
        checks.warmth(x, 50, 40);
        checks.since(x, NONE, NONE);
        checks.due("doing(3, 1)", x.doing(3, 1), 4);
    }

    private static void undoneLogsBetween() {
        checks.sentence("with all that was done since");
        StoveFavours x = checks.houseOf("p50 1;p40 2;d0 3 0;s0 5 20;", 2);
        checks.due("stack(1)", x.stack(1), 21);
        checks.due("law(3, 1)", x.law(3, 1), 4);
        checks.due("sit(1)", x.sit(1), 0);
        checks.due("stack(10)", x.stack(10), 31);
        checks.due("law(3, 2)", x.law(3, 2), 1);
        checks.due("act(0, 1)", x.act(0, 1), 1);
        checks.due("undo(1)", x.undo(1), 1);
        checks.due("told(4)", x.told(4), 31);
        checks.due("doing(3, 1)", x.doing(3, 1), 2);
        checks.due("undo(1)", x.undo(1), 0);
        checks.due("told(4), stacked ahead of all hours", x.told(4), 21);
        checks.due("doing(3, 1)", x.doing(3, 1), 1);
    }

    private static void notedStays() {
        checks.sentence("what is NOTED, THE BOOK stay);");
        StoveFavours x = checks.houseOf("p50 1;p40 2;", 2);
        checks.due("note(0, 0, 0, 0)", x.note(0, 0, 0, 0), 1);
        checks.due("write(0, 0)", x.write(0, 0), 1);
        checks.due("sit(1)", x.sit(1), 0);
        checks.due("note(0, 1, 0, 0)", x.note(0, 1, 0, 0), 2);
        checks.due("write(0, 0)", x.write(0, 0), 2);
        checks.due("undo(1)", x.undo(1), 0);
        checks.due("told(7)", x.told(7), 2);
        checks.due("told(8)", x.told(8), 2);
        checks.due("laws(0)", x.laws(0), 16);
    }

    private static void seedStays() {
        checks.sentence("THE SEED stays.");
        StoveFavours x = checks.houseOf("p50 1;p40 2;", 2);
        x.seed(77);
        x.drift(4);
        int seed = x.seed(0);
        x.seed(seed);
        checks.due("the seed went on", seed != 77 ? 1 : 0, 1);
        checks.due("undo(4)", x.undo(4), 0);
        checks.due("the seed", x.seed(0), seed);
    }
}
