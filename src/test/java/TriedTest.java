/** Promises 14 to 22: what is tried, and that nothing changes by it. */
public final class TriedTest {
    private static final int UNKNOWN = StoveFavours.UNKNOWN, OUTSIDE = StoveFavours.OUTSIDE, NOT = StoveFavours.NOT;
    private static final Checks checks = new Checks("TriedTest");

    public static void main(String[] args) {
        freezing();
        favourFewestLogs();
        favourFewestDoings();
        favourFirstRow();
        favourRefusals();
        allWarmRows();
        allWarmRefusals();
        duels();
        duelOfNone();
        duelRefusals();
        forEverLaps();
        forEverIgnoresWarmthAndLogs();
        forEverAgain();
        forEverRefusals();
        leftAndDoers();
        chairs();
        nothingChanges();
        checks.finish();
    }

    /** Promise 14. */
    private static void freezing() {
        StoveFavours x = checks.houseOf("p1 9;p10 3;p99 1;p8 2;p50 0;s0 1 0;", 5);
        checks.due("freezes(0)", x.freezes(0), 4);
        checks.due("freezes(1)", x.freezes(1), 1);
        checks.due("sit(3)", x.sit(3), 0);
        checks.due("freezes(0)", x.freezes(0), 1);
        checks.due("freezes(1)", x.freezes(1), 1);
        checks.due("sit(1)", x.sit(1), 0);
        checks.due("freezes(0)", x.freezes(0), 0);
        checks.due("freezes(1)", x.freezes(1), 1);
        StoveFavours slow = checks.houseOf("p99 1;p99 1;s1 1 0;", 2);
        checks.due("slow freezes(0)", slow.freezes(0), 99);
        checks.due("slow freezes(1)", slow.freezes(1), 0);
        StoveFavours never = checks.houseOf("p5 0;p5 9;s1 1 0;", 2);
        checks.due("never freezes(0)", never.freezes(0), -1);
        checks.due("never freezes(1)", never.freezes(1), -1);
        StoveFavours cold = checks.houseOf("p5 1;p0 9;s1 1 0;", 2);
        checks.due("cold freezes(0)", cold.freezes(0), 0);
        checks.due("cold freezes(1)", cold.freezes(1), 1);
        checks.due("cold freezes(2)", cold.freezes(2), OUTSIDE);
        checks.due("cold freezes(-1)", cold.freezes(-1), OUTSIDE);
        checks.due("nobody freezes(0)", new StoveFavours().freezes(0), -1);
        checks.due("nobody freezes(1)", new StoveFavours().freezes(1), -1);
        checks.due("nobody freezes(2)", new StoveFavours().freezes(2), OUTSIDE);
    }

    private static void favour(StoveFavours x, int p, int n, int logs, int[] row) {
        String call = "favour(" + p + ", " + n + ", ";
        checks.due(call + "-1)", x.favour(p, n, -1), logs);
        for (int i = 0; i < n; i++) {
            checks.due(call + i + ")", x.favour(p, n, i), logs == -1 ? -1 : row[i]);
        }
        checks.due(call + n + ")", x.favour(p, n, n), -1);
        checks.due(call + "-2)", x.favour(p, n, -2), -1);
    }

    private static void allWarm(StoveFavours x, int n, int logs, int[] row) {
        String call = "allWarm(" + n + ", ";
        checks.due(call + "-1)", x.allWarm(n, -1), logs);
        for (int i = 0; i < n; i++) {
            checks.due(call + i + ")", x.allWarm(n, i), logs == -1 ? -1 : row[i]);
        }
        checks.due(call + n + ")", x.allWarm(n, n), -1);
        checks.due(call + "-2)", x.allWarm(n, -2), -1);
    }

    /** Promise 15: fewer logs are better than fewer doings; no more than there are. */
    private static void favourFewestLogs() {
        StoveFavours x = checks.houseOf("p50 1;p50 1;p50 1;d0 3 0;d1 1 1;d2 9 4;d3 9 4;d4 9 4;d5 9 4;s0 5 2;", 3);
        favour(x, 0, 1, 0, new int[] {99});
        favour(x, 1, 1, 1, new int[] {10});
        favour(x, 2, 1, -1, null);
        favour(x, 2, 2, 2, new int[] {10, 10});
        favour(x, 2, 3, 2, new int[] {99, 10, 10});
        checks.due("stack(1)", x.stack(1), 3);
        favour(x, 2, 1, 3, new int[] {2});
        favour(x, 2, 2, 2, new int[] {10, 10});
        favour(x, 0, 3, 0, new int[] {99, 99, 99});
    }

    /** Promise 15: of as many logs the fewest doings. */
    private static void favourFewestDoings() {
        StoveFavours x = checks.houseOf("p50 1;p50 1;p50 1;d0 2 0;d1 1 1;d2 9 4;d3 9 4;d4 9 4;d5 9 4;s0 5 9;", 3);
        favour(x, 2, 2, 2, new int[] {99, 2});
        favour(x, 2, 3, 2, new int[] {99, 99, 2});
        favour(x, 1, 3, 1, new int[] {99, 99, 10});
        // law 2 makes 2 in the first hour alone; 99, 0, 0 comes ahead of it by law 1, but has two doings
        StoveFavours early = checks.houseOf("p50 0;p6 5;p5 0;d0 0 1;d1 0 2;s0 5 0;", 3);
        favour(early, 2, 3, 0, new int[] {10, 99, 99});
    }

    /** Promise 15: of like ones none ahead of all, then doing by doing, person by person. */
    private static void favourFirstRow() {
        StoveFavours x = checks.houseOf("p50 1;p50 1;p50 1;d0 0 6;d1 0 0;d2 0 1;s0 5 9;", 3);
        favour(x, 1, 1, 0, new int[] {0});
        favour(x, 2, 1, 0, new int[] {1});
        favour(x, 2, 2, 0, new int[] {99, 1});
        checks.due("law(0, 4)", x.law(0, 4), 6);
        favour(x, 2, 3, 0, new int[] {99, 99, 12});
        StoveFavours since = checks.houseOf("p50 1;p50 1;p50 1;d0 0 3;s0 5 0;", 3);
        // the one never yet: 0 itself in the first hour, then 1
        favour(since, 1, 1, -1, null);
        favour(since, 1, 2, 0, new int[] {99, 0});
        favour(since, 2, 2, -1, null);
        favour(since, 2, 3, 0, new int[] {99, 0, 0});
        StoveFavours cold = checks.houseOf("p9 1;p6 1;p7 5;d0 0 2;s0 5 0;", 3);
        favour(cold, 1, 1, 0, new int[] {0});
        favour(cold, 2, 2, 0, new int[] {99, 0});
        favour(cold, 1, 2, 0, new int[] {0, 99});
    }

    private static void favourRefusals() {
        StoveFavours x = checks.houseOf("p50 1;", 1);
        checks.due("favour(1, 4, 0)", x.favour(1, 4, 0), UNKNOWN);
        checks.due("favour(-1, 1, 0)", x.favour(-1, 1, 0), UNKNOWN);
        checks.due("favour(0, 4, 0)", x.favour(0, 4, 0), OUTSIDE);
        checks.due("favour(0, 0, 0)", x.favour(0, 0, 0), OUTSIDE);
        checks.due("nobody favour(0, 1, 0)", new StoveFavours().favour(0, 1, 0), UNKNOWN);
    }

    /** Promise 16: nobody frozen behind any hour; ahead of the first one may be. */
    private static void allWarmRows() {
        StoveFavours x = checks.houseOf("p50 0;p4 2;p6 2;d0 2 0;d1 0 4;d2 1 1;s0 3 9;", 3);
        allWarm(x, 1, 0, new int[] {99});
        // 1 must be warmed in the first or the second hour
        allWarm(x, 2, 1, new int[] {99, 20});
        // and 2 in the third
        allWarm(x, 3, 2, new int[] {99, 20, 20});
        StoveFavours poor = checks.houseOf("p50 0;p4 2;p6 2;d0 2 0;d1 0 4;d2 1 1;s0 3 1;", 3);
        allWarm(poor, 2, 1, new int[] {99, 20});
        allWarm(poor, 3, -1, null);
        StoveFavours frozen = checks.houseOf("p0 0;p9 1;d0 1 0;d5 1 5;s1 1 9;", 2);
        allWarm(frozen, 1, 1, new int[] {0});
        allWarm(frozen, 3, 1, new int[] {0, 99, 99});
        StoveFavours two = checks.houseOf("p0 0;p0 1;p5 1;d0 0 0;s2 1 9;", 3);
        allWarm(two, 1, -1, null);
        allWarm(two, 2, -1, null);
    }

    private static void allWarmRefusals() {
        StoveFavours x = checks.houseOf("p50 1;", 1);
        allWarm(x, 3, 0, new int[] {99, 99, 99});
        checks.due("allWarm(0, 0)", x.allWarm(0, 0), OUTSIDE);
        checks.due("allWarm(4, 0)", x.allWarm(4, 0), OUTSIDE);
        checks.due("nobody allWarm(1, 0)", new StoveFavours().allWarm(1, 0), NOT);
        checks.due("nobody allWarm(4, 0)", new StoveFavours().allWarm(4, 0), OUTSIDE);
    }

    private static void duel(StoveFavours x, int a, int b, int n, int result, int thing) {
        String call = "duel(" + a + ", " + b + ", " + n + ", ";
        checks.due(call + "0)", x.duel(a, b, n, 0), result);
        checks.due(call + "1)", x.duel(a, b, n, 1), thing);
    }

    /** Promise 17: who has the last turn has the last word, if a law gives it to him. */
    private static void duels() {
        StoveFavours x = checks.houseOf("p50 1;p50 1;p50 1;d3 9 0;s2 5 0;", 3);
        duel(x, 0, 1, 1, 2, 3);
        duel(x, 0, 1, 2, 0, 0);
        duel(x, 0, 1, 3, 2, 0);
        duel(x, 1, 0, 4, 0, 0);
        StoveFavours next = checks.houseOf("p50 1;p50 1;p50 1;d0 0 1;s0 5 0;", 3);
        // the turn goes on by one or stays
        duel(next, 1, 0, 1, 2, 0);
        duel(next, 0, 1, 1, 2, 1);
        duel(next, 2, 1, 1, 1, 1);
        // 1 is next to 0 and can stay: 2 can't hinder it, but 0 gets nothing behind 1
        duel(next, 2, 1, 2, 0, 0);
        duel(next, 2, 0, 2, 1, 0);
    }

    /** Promise 17: none is the thing 6, behind all doings; a doing is that person's own. */
    private static void duelOfNone() {
        StoveFavours x = checks.houseOf("p50 1;p50 1;d0 0 6;d1 0 6;d2 0 6;d3 0 6;d4 0 6;d5 0 6;s0 5 0;", 2);
        duel(x, 0, 1, 1, 2, 6);
        duel(x, 1, 0, 1, 0, 0);
        duel(x, 0, 1, 2, 2, 6);
        StoveFavours stays = checks.houseOf("p50 1;p50 1;p9 1;s1 5 0;", 3);
        duel(stays, 0, 1, 4, 0, 0);
        duel(stays, 1, 0, 4, 2, 0);
        duel(stays, 0, 2, 4, 1, 0);
    }

    private static void duelRefusals() {
        StoveFavours x = checks.houseOf("p50 1;p50 1;", 2);
        checks.due("duel(0, 0, 1, 0)", x.duel(0, 0, 1, 0), UNKNOWN);
        checks.due("duel(0, 2, 9, 9)", x.duel(0, 2, 9, 9), UNKNOWN);
        checks.due("duel(2, 0, 1, 0)", x.duel(2, 0, 1, 0), UNKNOWN);
        checks.due("duel(-1, 0, 1, 0)", x.duel(-1, 0, 1, 0), UNKNOWN);
        checks.due("duel(0, 1, 0, 0)", x.duel(0, 1, 0, 0), OUTSIDE);
        checks.due("duel(0, 1, 5, 0)", x.duel(0, 1, 5, 0), OUTSIDE);
        checks.due("duel(0, 1, 1, 2)", x.duel(0, 1, 1, 2), OUTSIDE);
        checks.due("duel(0, 1, 1, -1)", x.duel(0, 1, 1, -1), OUTSIDE);
    }

    private static void lap(StoveFavours x, int rounds, int[] hours, int fair) {
        checks.due("forEver(-1)", x.forEver(-1), rounds);
        for (int p = 0; p < hours.length; p++) {
            checks.due("forEver(" + p + ")", x.forEver(p), hours[p]);
        }
        checks.due("fair()", x.fair(), fair);
    }

    /** Promises 18 and 19. */
    private static void forEverLaps() {
        StoveFavours x = checks.houseOf("p50 1;p50 1;p50 1;p50 1;d0 9 1;d1 9 0;d2 9 3;s2 5 0;", 4);
        lap(x, -1, new int[] {-1, -1, -1, -1}, -1);
        x.write(0, 0);
        // 3, 0, 1, 2, 3: all in this order behind the fourth, as behind the eighth round
        lap(x, 4, new int[] {1, 1, 1, 1}, 0);
        x.write(0, 0);
        // 3 0, 1 2, 3 0, 1 2
        lap(x, 2, new int[] {1, 1, 1, 1}, 0);
        x.write(1, 1);
        // 3 0 1, 2 3 1, 2 3 1: none was 0 again
        lap(x, 1, new int[] {0, 1, 1, 1}, 1);
        checks.due("tear()", x.tear(), 3);
        x.write(1, 3);
        x.write(1, 3);
        x.write(1, 0);
        lap(x, 1, new int[] {1, 0, 0, 2}, 2);
        checks.due("tear()", x.tear(), 3);
        x.write(2, 3);
        // those never yet: 0, 1, 2, 3, then the order goes round
        lap(x, 4, new int[] {1, 1, 1, 1}, 0);
        // behind no rounds, too: it is now as it will be
        StoveFavours alone = checks.houseOf("p50 1;", 1);
        alone.sit(1);
        alone.write(0, 0);
        alone.write(0, 0);
        lap(alone, 1, new int[] {2}, 0);
    }

    /** Promise 18: law 2 makes the least person, whatever the warmth; logs do not matter. */
    private static void forEverIgnoresWarmthAndLogs() {
        StoveFavours x = checks.houseOf("p50 9;p50 9;p1 9;d0 9 2;d1 9 5;s1 20 0;", 3);
        x.write(0, 2);
        x.write(1, 0);
        lap(x, 1, new int[] {1, 0, 1}, 1);
    }

    /** Promises 18 and 19: the same answers however often they are asked, with a full book, too. */
    private static void forEverAgain() {
        StoveFavours x = checks.houseOf("p50 1;p50 1;p50 1;d0 9 0;d1 9 3;s1 5 0;", 3);
        for (int k = 0; k < 19; k++) {
            x.write(k == 3 ? 0 : 2, 1);
        }
        x.write(1, 0);
        // each round: three hours of who it was, sixteen of 1, one of 0 and 2 by turns
        for (int k = 0; k < 100; k++) {
            lap(x, 2, new int[] {4, 32, 4}, 28);
        }
    }

    private static void forEverRefusals() {
        StoveFavours x = checks.houseOf("p50 1;", 1);
        checks.due("forEver(1)", x.forEver(1), UNKNOWN);
        checks.due("forEver(-2)", x.forEver(-2), UNKNOWN);
        StoveFavours nobody = new StoveFavours();
        checks.due("nobody forEver(-1)", nobody.forEver(-1), NOT);
        checks.due("nobody forEver(0)", nobody.forEver(0), UNKNOWN);
        checks.due("nobody fair()", nobody.fair(), NOT);
    }

    /** Promises 20 and 21: logs do not matter. */
    private static void leftAndDoers() {
        StoveFavours x = checks.houseOf("p50 1;p40 1;p60 1;d0 9 0;d1 9 6;d2 9 1;d3 9 2;d4 9 3;s1 5 0;", 3);
        left(x, 0, new int[] {0, 12, 40, 41, 42});
        left(x, 1, new int[] {1, 10, 30, 31, 32, 50, 51, 52});
        left(x, 2, new int[] {2, 11, 20, 21, 22});
        checks.due("law(4, 4)", x.law(4, 4), 3);
        left(x, 0, new int[] {0, 12});
        checks.due("doers(0)", x.doers(0), 1 + 4);
        checks.due("doers(1)", x.doers(1), 7);
        checks.due("law(0, 4)", x.law(0, 4), 0);
        checks.due("doers(0)", x.doers(0), 4);
        checks.due("law(1, 4)", x.law(1, 4), 6);
        left(x, 0, new int[] {});
        checks.due("doers(0)", x.doers(0), 0);
        checks.due("left(3, -1)", x.left(3, -1), UNKNOWN);
        checks.due("left(-1, -1)", x.left(-1, -1), UNKNOWN);
        checks.due("doers(3)", x.doers(3), UNKNOWN);
        checks.due("doers(-1)", x.doers(-1), UNKNOWN);
    }

    private static void left(StoveFavours x, int p, int[] due) {
        checks.due("left(" + p + ", -1)", x.left(p, -1), due.length);
        for (int i = 0; i < due.length; i++) {
            checks.due("left(" + p + ", " + i + ")", x.left(p, i), due[i]);
        }
        checks.due("left(" + p + ", " + due.length + ")", x.left(p, due.length), -1);
        checks.due("left(" + p + ", -2)", x.left(p, -2), -1);
    }

    /** Promise 22: as if it were never the darling. */
    private static void chairs() {
        StoveFavours x = checks.houseOf("p50 7;p49 7;p5 0;p0 0;p99 1;s1 5 0;", 5);
        checks.due("chair(0)", x.chair(0), 8);
        checks.due("chair(1)", x.chair(1), 7);
        checks.due("chair(2)", x.chair(2), -1);
        checks.due("chair(3)", x.chair(3), 0);
        checks.due("chair(4)", x.chair(4), 99);
        checks.due("chair(5)", x.chair(5), UNKNOWN);
        checks.due("chair(-1)", x.chair(-1), UNKNOWN);
    }

    private static void nothingChanges() {
        StoveFavours x = checks.houseOf("p50 3;p12 4;p9 1;d0 2 0;d1 3 1;d2 0 2;d3 0 3;d4 1 6;d5 1 5;s1 6 9;", 3);
        x.act(3, 0);
        x.act(2, 0);
        x.write(0, 2);
        x.write(3, 1);
        int before = fingerprint(x);
        x.freezes(0);
        x.favour(2, 3, -1);
        x.allWarm(3, -1);
        x.duel(0, 1, 4, 0);
        x.forEver(-1);
        x.fair();
        x.left(0, -1);
        x.doers(0);
        x.chair(0);
        x.judge(1);
        x.tryNext(0);
        checks.due("all of it behind what was tried", fingerprint(x), before);
    }

    private static int fingerprint(StoveFavours x) {
        int print = 7;
        for (int what = 0; what < 10; what++) {
            print = print * 31 + x.told(what);
        }
        for (int k = 0; k < 9; k++) {
            print = print * 31 + x.person(k / 3, k % 3);
        }
        for (int k = 0; k < 12; k++) {
            print = print * 31 + x.doing(k / 2, k % 2);
        }
        return print;
    }
}
