/** Promises 8 to 13: hours with and without doings, by draws, logs, laws, undone. */
public final class HoursTest {
    private static final int UNKNOWN = StoveFavours.UNKNOWN, OUTSIDE = StoveFavours.OUTSIDE, NOT = StoveFavours.NOT, FULL = StoveFavours.FULL;
    private static final Checks checks = new Checks("HoursTest");

    public static void main(String[] args) {
        lawsOfNumbers();
        lawOfWarmth();
        lawOfSince();
        warmthAndSince();
        logsOfDoings();
        sitting();
        drifting();
        stacking();
        changingLaws();
        undoing();
        ringOfHours();
        lastHour();
        checks.finish();
    }

    /** Promise 8: laws 0, 1, 4, 5, 6, round at both ends. */
    private static void lawsOfNumbers() {
        StoveFavours x = checks.houseOf("p90 0;p80 0;p70 0;d0 0 0;d1 0 1;d2 0 4;d3 0 5;d4 0 6;s2 1 0;", 3);
        checks.acts(x, new int[][] {
            {1, 1, 0}, {1, 1, 1}, {1, 0, 2}, {3, 0, 1}, {3, 0, 0}, {3, 0, 2},
            {0, 1, 1}, {2, 0, 1}, {4, 0, 1}, {4, 1, 2}, {4, 2, 0}, {0, 0, 0}, {2, 2, 0},
        });
        StoveFavours alone = checks.houseOf("p9 0;d0 0 0;d1 0 1;d2 0 2;d3 0 3;d4 0 5;d5 0 6;", 1);
        for (int e = 0; e < 6; e++) {
            checks.due("alone act(" + e + ", 0)", alone.act(e, 0), 0);
        }
    }

    /** Promise 8: law 2, ahead of the hour's own warmth; of like ones the least. */
    private static void lawOfWarmth() {
        StoveFavours x = checks.houseOf("p30 0;p20 0;p20 0;d0 0 2;s0 10 0;", 3);
        checks.acts(x, new int[][] {{0, 2, 1}, {0, 0, 2}, {0, 0, 0}, {0, 0, 1}, {0, 0, 2}, {0, 0, 0}});
    }

    /** Promise 8: law 3, those never ahead of all, the first darling among them. */
    private static void lawOfSince() {
        StoveFavours x = checks.houseOf("p30 0;p20 0;p20 0;d0 0 3;d1 0 0;s1 10 0;", 3);
        checks.acts(x, new int[][] {{0, 2, 0}, {0, 0, 1}, {0, 0, 2}, {0, 0, 0}, {1, 1, 1}, {0, 0, 2}, {0, 0, 0}, {0, 0, 1}});
        StoveFavours first = checks.houseOf("p30 0;p20 0;p20 0;d0 0 3;s0 10 0;", 3);
        checks.due("act(0, 2)", first.act(0, 2), 0);
        checks.due("sit(1)", first.sit(1), 0);
        checks.due("act(0, 0)", first.act(0, 0), 1);
    }

    /** Promise 8: the darling is warmer, all others colder, within 0 .. 99. */
    private static void warmthAndSince() {
        StoveFavours x = checks.houseOf("p95 3;p4 3;p50 0;d0 0 0;s0 5 0;", 3);
        checks.due("act(0, 1)", x.act(0, 1), 1);
        people(x, new int[][] {{92, -1}, {9, 0}, {50, -1}});
        checks.due("act(0, 0)", x.act(0, 0), 0);
        people(x, new int[][] {{97, 1}, {6, 0}, {50, -1}});
        checks.due("act(0, 0)", x.act(0, 0), 0);
        people(x, new int[][] {{99, 2}, {3, 0}, {50, -1}});
        checks.due("act(0, 2)", x.act(0, 2), 2);
        people(x, new int[][] {{96, 2}, {0, 0}, {55, 3}});
        checks.due("told(6)", x.told(6), 2);
        checks.due("act(0, 2)", x.act(0, 2), 2);
        people(x, new int[][] {{93, 2}, {0, 0}, {60, 4}});
        checks.due("act(0, 1)", x.act(0, 1), 1);
        people(x, new int[][] {{90, 2}, {5, 5}, {60, 4}});
        checks.due("told(6)", x.told(6), 0);
        checks.due("told(2)", x.told(2), 6);
    }

    private static void people(StoveFavours x, int[][] due) {
        for (int p = 0; p < due.length; p++) {
            checks.due("hour " + x.told(2) + " person(" + p + ", 0)", x.person(p, 0), due[p][0]);
            checks.due("hour " + x.told(2) + " person(" + p + ", 2)", x.person(p, 2), due[p][1]);
        }
    }

    /** Promise 8: what a doing costs, and what is refused. */
    private static void logsOfDoings() {
        StoveFavours x = checks.houseOf("p95 3;p4 3;d0 3 0;d1 0 0;s0 5 7;", 2);
        checks.due("act(0, 1)", x.act(0, 1), 1);
        checks.due("told(4)", x.told(4), 4);
        checks.due("act(2, 1)", x.act(2, 1), 1);
        checks.due("told(4)", x.told(4), 3);
        checks.due("act(0, 0)", x.act(0, 0), 0);
        checks.due("told(4)", x.told(4), 0);
        checks.due("act(0, 0)", x.act(0, 0), NOT);
        checks.due("act(2, 0)", x.act(2, 0), NOT);
        checks.due("act(6, 0)", x.act(6, 0), UNKNOWN);
        checks.due("act(-1, 0)", x.act(-1, 0), UNKNOWN);
        checks.due("act(0, 2)", x.act(0, 2), UNKNOWN);
        checks.due("act(0, -1)", x.act(0, -1), UNKNOWN);
        checks.due("told(2)", x.told(2), 3);
        checks.due("told(9)", x.told(9), 3);
        checks.due("act(1, 1)", x.act(1, 1), 1);
        checks.due("told(4)", x.told(4), 0);
        checks.due("nobody act(0, 0)", new StoveFavours().act(0, 0), UNKNOWN);
    }

    /** Promise 9. */
    private static void sitting() {
        StoveFavours x = checks.houseOf("p95 3;p40 3;p9 9;s1 2 7;", 3);
        checks.due("sit(0)", x.sit(0), OUTSIDE);
        checks.due("sit(100)", x.sit(100), OUTSIDE);
        checks.due("sit(-1)", x.sit(-1), OUTSIDE);
        checks.due("told(2)", x.told(2), 0);
        checks.due("sit(1)", x.sit(1), 1);
        people(x, new int[][] {{92, -1}, {42, 0}, {0, -1}});
        checks.due("sit(99)", x.sit(99), 1);
        people(x, new int[][] {{0, -1}, {99, 99}, {0, -1}});
        checks.due("told(6)", x.told(6), 5);
        checks.due("told(4)", x.told(4), 7);
        StoveFavours nobody = new StoveFavours();
        checks.due("nobody sit(1)", nobody.sit(1), NOT);
        checks.due("nobody sit(0)", nobody.sit(0), OUTSIDE);
        checks.due("nobody drift(1)", nobody.drift(1), NOT);
        checks.due("nobody drift(100)", nobody.drift(100), OUTSIDE);
    }

    /** Promise 10: the draws are made here once more, number by number. */
    private static void drifting() {
        StoveFavours x = checks.houseOf("p95 3;p40 3;p30 2;d0 1 0;d1 0 0;d2 2 0;d3 9 0;d4 0 0;d5 1 0;s1 2 12;", 3);
        int[] costs = {1, 0, 2, 9, 0, 1};
        long seed = 5;
        int logs = 12;
        int darling = 1;
        checks.due("seed(5)", x.seed(5), 0);
        for (int n = 1; n <= 40; n++) {
            for (int hour = 0; hour < n; hour++) {
                seed = (seed * 1103515245L + 12345L) % 2147483648L;
                int e = (int) (seed / 65536 % 8);
                if (e < 6) {
                    seed = (seed * 1103515245L + 12345L) % 2147483648L;
                    int p = (int) (seed / 65536 % 3);
                    darling = costs[e] <= logs ? p : darling;
                    logs -= costs[e] <= logs ? costs[e] : 0;
                }
            }
            checks.due("drift(" + n + ")", x.drift(n), darling);
            checks.due("told(4)", x.told(4), logs);
            checks.due("seed()", x.seed((int) seed), seed);
        }
        checks.due("told(2)", x.told(2), 820);
        checks.due("drift(0)", x.drift(0), OUTSIDE);
        checks.due("drift(100)", x.drift(100), OUTSIDE);
        checks.due("seed() behind refusals", x.seed(0), seed);
    }

    /** Promise 11. */
    private static void stacking() {
        StoveFavours x = new StoveFavours();
        checks.due("stack(0)", x.stack(0), 20);
        checks.due("stack(-1)", x.stack(-1), OUTSIDE);
        checks.due("stack(1000)", x.stack(1000), OUTSIDE);
        for (int k = 1; k <= 9; k++) {
            checks.due("stack(999)", x.stack(999), 20 + 999 * k);
        }
        checks.due("stack(987)", x.stack(987), 9998);
        checks.due("stack(1)", x.stack(1), 9999);
        checks.due("stack(1)", x.stack(1), 9999);
        checks.due("stack(999)", x.stack(999), 9999);
        checks.due("told(4)", x.told(4), 9999);
    }

    /** Promise 12. */
    private static void changingLaws() {
        StoveFavours x = checks.houseOf("p95 3;p40 3;d0 1 2;", 2);
        checks.due("law(0, 6)", x.law(0, 6), 2);
        checks.due("law(0, 0)", x.law(0, 0), 6);
        checks.due("act(0, 1)", x.act(0, 1), 1);
        checks.due("law(5, 3)", x.law(5, 3), 4);
        checks.due("doing(5, 1)", x.doing(5, 1), 3);
        checks.due("law(0, 7)", x.law(0, 7), UNKNOWN);
        checks.due("law(0, -1)", x.law(0, -1), UNKNOWN);
        checks.due("law(6, 0)", x.law(6, 0), UNKNOWN);
        checks.due("law(-1, 0)", x.law(-1, 0), UNKNOWN);
        checks.due("doing(0, 1)", x.doing(0, 1), 0);
    }

    /** Promise 13: logs and laws go back with the hours; notes, book and seed stay. */
    private static void undoing() {
        StoveFavours x = checks.houseOf("p50 2;p40 3;d0 3 0;s0 5 20;", 2);
        checks.due("undo(0)", x.undo(0), OUTSIDE);
        checks.due("undo(31)", x.undo(31), OUTSIDE);
        checks.due("undo(1)", x.undo(1), NOT);
        checks.due("stack(1)", x.stack(1), 21);
        checks.due("law(1, 1)", x.law(1, 1), 4);
        checks.due("act(0, 1)", x.act(0, 1), 1);
        checks.due("stack(100)", x.stack(100), 118);
        checks.due("law(1, 2)", x.law(1, 2), 1);
        checks.due("note(0, 0, 0, 0)", x.note(0, 0, 0, 0), 1);
        checks.due("write(0, 0)", x.write(0, 0), 1);
        checks.due("sit(1)", x.sit(1), 1);
        checks.due("law(1, 3)", x.law(1, 3), 2);
        checks.due("seed(9)", x.seed(9), 0);
        checks.due("undo(3)", x.undo(3), NOT);
        checks.due("undo(1)", x.undo(1), 1);
        checks.due("told(4)", x.told(4), 118);
        checks.due("doing(1, 1)", x.doing(1, 1), 2);
        people(x, new int[][] {{48, -1}, {45, 0}});
        checks.due("undo(1)", x.undo(1), 0);
        checks.due("told(3)", x.told(3), 0);
        checks.due("told(4)", x.told(4), 21);
        checks.due("doing(1, 1)", x.doing(1, 1), 1);
        people(x, new int[][] {{50, -1}, {40, -1}});
        checks.due("told(7)", x.told(7), 1);
        checks.due("told(8)", x.told(8), 1);
        checks.due("told(9)", x.told(9), 0);
        checks.due("undo(1)", x.undo(1), NOT);
        checks.due("seed(0)", x.seed(0), 9);
    }

    /** Promise 13: the latest 30 hours are kept, across the ring's seam too. */
    private static void ringOfHours() {
        StoveFavours x = checks.houseOf("p99 1;p0 0;s1 1 0;", 2);
        checks.due("sit(29)", x.sit(29), 1);
        checks.due("told(9)", x.told(9), 29);
        checks.due("undo(30)", x.undo(30), NOT);
        checks.due("sit(12)", x.sit(12), 1);
        checks.due("told(9)", x.told(9), 30);
        checks.due("undo(20)", x.undo(20), 21);
        checks.due("person(1, 0)", x.person(1, 0), 21);
        checks.due("sit(5)", x.sit(5), 1);
        checks.due("told(9)", x.told(9), 15);
        checks.due("undo(16)", x.undo(16), NOT);
        checks.due("undo(15)", x.undo(15), 11);
        checks.due("person(0, 0)", x.person(0, 0), 88);
        checks.due("sit(31)", x.sit(31), 1);
        checks.due("undo(30)", x.undo(30), 12);
        checks.due("person(1, 2)", x.person(1, 2), 11);
    }

    /** Promises 8 to 10: FULL. No 512 calls reach that hour; the object holds to it all the same. */
    private static void lastHour() {
        StoveFavours x = checks.houseOf("p99 1;p0 0;d0 1 0;s1 1 1;", 2);
        for (int k = 0; k < 909; k++) {
            x.sit(99);
        }
        checks.due("sit(9)", x.sit(9), 1);
        checks.due("told(2)", x.told(2), 90000);
        checks.due("act(0, 0)", x.act(0, 0), 0);
        checks.due("stack(0)", x.stack(0), 0);
        checks.due("act(0, 0)", x.act(0, 0), NOT);
        checks.due("stack(5)", x.stack(5), 5);
        checks.due("act(0, 0)", x.act(0, 0), FULL);
        checks.due("act(0, 2)", x.act(0, 2), UNKNOWN);
        checks.due("sit(1)", x.sit(1), FULL);
        checks.due("sit(0)", x.sit(0), OUTSIDE);
        checks.due("drift(1)", x.drift(1), FULL);
        checks.due("drift(0)", x.drift(0), OUTSIDE);
        checks.due("told(2)", x.told(2), 90001);
        checks.due("undo(1)", x.undo(1), 90000);
        checks.due("sit(99)", x.sit(99), 1);
        checks.due("told(2)", x.told(2), 90099);
        checks.due("undo(30)", x.undo(30), 90069);
    }
}
