import java.util.List;
import java.util.function.Supplier;
import java.util.function.ToIntFunction;

/**
 * The document's Terms: what is refused, of several refusals which one, and that it changes nothing: the call
 * is asked of one of two objects that lived alike, then all that can be seen of both is compared.
 */
public final class RefusedTest {
    private static final int NONE = StoveFavours.NONE, UNKNOWN = StoveFavours.UNKNOWN, OUTSIDE = StoveFavours.OUTSIDE;
    private static final int NOT = StoveFavours.NOT, FULL = StoveFavours.FULL;
    private static final int LEAST = Integer.MIN_VALUE, MOST = Integer.MAX_VALUE;
    static final Checks checks = new Checks("RefusedTest");

    public static void main(String[] args) {
        house();
        unknownAct();
        unknownLawAndImage();
        hours();
        tried();
        duel();
        unknownNote();
        seen();
        notNow();
        nobody();
        full();
        unknownAheadOfOutside();
        unknownAheadOfNot();
        unknownAheadOfFull();
        outsideAheadOfNot();
        outsideAheadOfFull();
        notAheadOfFull();
        farBelow();
        noNumberThrows();
        checks.finish();
    }

    /** Three people, five hours ahead of an image and three behind it, things noted, a book, half a text. */
    static StoveFavours rich() {
        StoveFavours x = fed("p50 3;p12 4;p9 1;d0 2 0;d1 3 1;d2 0 2;d3 0 3;d4 1 6;d5 1 5;s1 6 9;");
        x.seed(11);
        x.sit(4);
        x.act(0, 0);
        x.keep(0);
        x.stack(1);
        x.act(3, 1);
        x.law(2, 6);
        x.act(2, 1);
        x.sit(1);
        x.seed(12);
        x.note(0, 1, 2, 1);
        x.note(1, 2, 2, 0);
        x.write(4, 2);
        x.write(1, 0);
        x.write(3, 2);
        feed(x, "p7 1;d0 3");
        return x;
    }

    private static final String RICH_REST = " 2;";

    /** Logs for nothing that costs, fewer than undo() may ask for. */
    private static StoveFavours poor() {
        StoveFavours x = fed("p50 3;p12 4;d0 3 0;d1 9 1;d2 0 2;s1 6 2;");
        x.sit(2);
        return x;
    }

    private static StoveFavours nobodyAtHome() {
        StoveFavours x = fed("d0 3 6;d2 0 0;");
        x.seed(5);
        x.stack(7);
        x.keep(1);
        x.law(1, 3);
        feed(x, "p7 1;");
        return x;
    }

    private static StoveFavours fullText() {
        StoveFavours x = fed("p50 3;");
        feed(x, "p7 1;" + " ".repeat(190) + "p8 2;");
        return x;
    }

    private static StoveFavours fullOfNotes() {
        StoveFavours x = fed("p50 3;p12 4;");
        for (int k = 0; k < 12; k++) {
            x.note(k / 3, k % 2, 1, 0);
        }
        return x;
    }

    private static StoveFavours fullBook() {
        StoveFavours x = fed("p50 3;p12 4;d0 1 0;d1 1 6;");
        for (int k = 0; k < 20; k++) {
            x.write(k % 2, k % 3 == 0 ? 1 : 0);
        }
        return x;
    }

    private static StoveFavours fed(String text) {
        StoveFavours x = new StoveFavours();
        feed(x, text);
        x.house();
        return x;
    }

    private static void feed(StoveFavours x, String text) {
        for (int k = 0; k < text.length(); k++) {
            x.feed(text.charAt(k));
        }
    }

    private static void refused(String call, Supplier<StoveFavours> life, String rest, ToIntFunction<StoveFavours> ask, int due) {
        StoveFavours asked = life.get();
        StoveFavours twin = life.get();
        checks.due(call, ask.applyAsInt(asked), due);
        List<String> got = Probe.all(asked, rest);
        checks.alike(call, got, Probe.all(twin, rest));
    }

    private static void rich(String call, ToIntFunction<StoveFavours> ask, int due) {
        refused(call, RefusedTest::rich, RICH_REST, ask, due);
    }

    private static void house() {
        checks.sentence("A letter (0 .. 255) comes behind THE TEXT: how many it has. OUTSIDE, FULL (200).");
        rich("feed(-1)", x -> x.feed(-1), OUTSIDE);
        rich("feed(256)", x -> x.feed(256), OUTSIDE);
        checks.sentence("9 hours that can be undone. OUTSIDE.");
        rich("told(-1)", x -> x.told(-1), OUTSIDE);
        rich("told(10)", x -> x.told(10), OUTSIDE);
        checks.sentence("Of a PERSON: what = 0 WARMTH, 1 COLDER by, 2 SINCE (NONE). UNKNOWN, OUTSIDE.");
        rich("person(-1, 0)", x -> x.person(-1, 0), UNKNOWN);
        rich("person(3, 0)", x -> x.person(3, 0), UNKNOWN);
        rich("person(0, -1)", x -> x.person(0, -1), OUTSIDE);
        rich("person(2, 3)", x -> x.person(2, 3), OUTSIDE);
        checks.sentence("Of a DOING (0 .. 5): what = 0 LOGS, 1 LAW. UNKNOWN, OUTSIDE.");
        rich("doing(-1, 0)", x -> x.doing(-1, 0), UNKNOWN);
        rich("doing(6, 0)", x -> x.doing(6, 0), UNKNOWN);
        rich("doing(0, -1)", x -> x.doing(0, -1), OUTSIDE);
        rich("doing(5, 2)", x -> x.doing(5, 2), OUTSIDE);
    }

    private static void unknownAct() {
        checks.sentence("AN HOUR with a DOING of a PERSON: THE DARLING. UNKNOWN, NOT: not so many LOGS;");
        rich("act(-1, 0)", x -> x.act(-1, 0), UNKNOWN);
        rich("act(6, 0)", x -> x.act(6, 0), UNKNOWN);
        rich("act(0, -1)", x -> x.act(0, -1), UNKNOWN);
        rich("act(0, 3)", x -> x.act(0, 3), UNKNOWN);
    }

    private static void unknownLawAndImage() {
        checks.sentence("LAW of a DOING becomes k (0 .. 6): what it was. UNKNOWN.");
        rich("law(-1, 0)", x -> x.law(-1, 0), UNKNOWN);
        rich("law(6, 0)", x -> x.law(6, 0), UNKNOWN);
        rich("law(2, -1)", x -> x.law(2, -1), UNKNOWN);
        rich("law(2, 7)", x -> x.law(2, 7), UNKNOWN);
        checks.sentence("IMAGE i becomes what is so (nothing can be undone then): 1. UNKNOWN.");
        rich("keep(-1)", x -> x.keep(-1), UNKNOWN);
        rich("keep(2)", x -> x.keep(2), UNKNOWN);
        checks.sentence("What is so becomes IMAGE i (nothing can be undone then): 1. UNKNOWN, NOT: it was not kept.");
        rich("goBack(-1)", x -> x.goBack(-1), UNKNOWN);
        rich("goBack(2)", x -> x.goBack(2), UNKNOWN);
        rich("goBack(1)", x -> x.goBack(1), NOT);
    }

    private static void hours() {
        checks.sentence("n HOURS (1 .. 99) without any: THE DARLING. OUTSIDE, NOT: nobody;");
        rich("sit(0)", x -> x.sit(0), OUTSIDE);
        rich("sit(100)", x -> x.sit(100), OUTSIDE);
        rich("sit(-1)", x -> x.sit(-1), OUTSIDE);
        checks.sentence("n hours BY DRAWS (1 .. 99): THE DARLING. OUTSIDE, NOT: nobody;");
        rich("drift(0)", x -> x.drift(0), OUTSIDE);
        rich("drift(100)", x -> x.drift(100), OUTSIDE);
        rich("drift(-1)", x -> x.drift(-1), OUTSIDE);
        checks.sentence("LOGS are n more (0 .. 999; 9999 at most): LOGS. OUTSIDE.");
        rich("stack(-1)", x -> x.stack(-1), OUTSIDE);
        rich("stack(1000)", x -> x.stack(1000), OUTSIDE);
        checks.sentence("The n latest hours (1 .. 30) are undone: the hour. OUTSIDE, NOT: not so many.");
        rich("undo(0)", x -> x.undo(0), OUTSIDE);
        rich("undo(31)", x -> x.undo(31), OUTSIDE);
        rich("undo(-1)", x -> x.undo(-1), OUTSIDE);
        rich("undo(4), of 3", x -> x.undo(4), NOT);
        rich("undo(30), of 3", x -> x.undo(30), NOT);
        checks.sentence("THE SEED becomes v (0 .. 2147483647): what it was. OUTSIDE.");
        rich("seed(-1)", x -> x.seed(-1), OUTSIDE);
        rich("seed(LEAST)", x -> x.seed(LEAST), OUTSIDE);
    }

    private static void tried() {
        checks.sentence("FREEZES: what = 0 hours, 1 who; NONE. OUTSIDE.");
        rich("freezes(-1)", x -> x.freezes(-1), OUTSIDE);
        rich("freezes(2)", x -> x.freezes(2), OUTSIDE);
        checks.sentence("FAVOUR: i = NONE LOGS, else the i-th hour; NONE (no such hour, too). UNKNOWN, OUTSIDE.");
        rich("favour(-1, 1, 0)", x -> x.favour(-1, 1, 0), UNKNOWN);
        rich("favour(3, 1, 0)", x -> x.favour(3, 1, 0), UNKNOWN);
        rich("favour(0, 0, 0)", x -> x.favour(0, 0, 0), OUTSIDE);
        rich("favour(0, 4, 0)", x -> x.favour(0, 4, 0), OUTSIDE);
        checks.sentence("ALL WARM: likewise. OUTSIDE, NOT: nobody.");
        rich("allWarm(0, 0)", x -> x.allWarm(0, 0), OUTSIDE);
        rich("allWarm(4, 0)", x -> x.allWarm(4, 0), OUTSIDE);
        checks.sentence("FOR EVER: p = NONE how many rounds, else hours of a PERSON; NONE. UNKNOWN, NOT: nobody.");
        rich("forEver(-2)", x -> x.forEver(-2), UNKNOWN);
        rich("forEver(3)", x -> x.forEver(3), UNKNOWN);
        checks.sentence("LEFT: i = NONE how many, else the i-th; NONE. UNKNOWN.");
        rich("left(-1, 0)", x -> x.left(-1, 0), UNKNOWN);
        rich("left(3, 0)", x -> x.left(3, 0), UNKNOWN);
        checks.sentence("DOERS. UNKNOWN.");
        rich("doers(-1)", x -> x.doers(-1), UNKNOWN);
        rich("doers(3)", x -> x.doers(3), UNKNOWN);
        checks.sentence("CHAIR; NONE. UNKNOWN.");
        rich("chair(-1)", x -> x.chair(-1), UNKNOWN);
        rich("chair(3)", x -> x.chair(3), UNKNOWN);
    }

    private static void duel() {
        checks.sentence("DUEL: what = 0 what comes of it, 1 the first thing. UNKNOWN, OUTSIDE.");
        rich("duel(-1, 0, 1, 0)", x -> x.duel(-1, 0, 1, 0), UNKNOWN);
        rich("duel(3, 0, 1, 0)", x -> x.duel(3, 0, 1, 0), UNKNOWN);
        rich("duel(0, -1, 1, 0)", x -> x.duel(0, -1, 1, 0), UNKNOWN);
        rich("duel(0, 3, 1, 0)", x -> x.duel(0, 3, 1, 0), UNKNOWN);
        rich("duel(0, 1, 0, 0)", x -> x.duel(0, 1, 0, 0), OUTSIDE);
        rich("duel(0, 1, 5, 0)", x -> x.duel(0, 1, 5, 0), OUTSIDE);
        rich("duel(0, 1, 1, -1)", x -> x.duel(0, 1, 1, -1), OUTSIDE);
        rich("duel(0, 1, 1, 2)", x -> x.duel(0, 1, 1, 2), OUTSIDE);
        checks.sentence("one twice;");
        for (int p = 0; p < 3; p++) {
            int one = p;
            rich("duel of one with itself", x -> x.duel(one, one, 1, 0), UNKNOWN);
        }
    }

    private static void unknownNote() {
        checks.sentence("one twice or thrice, too): how much. UNKNOWN, FULL (12).");
        rich("note(-1, 0, 0, 0)", x -> x.note(-1, 0, 0, 0), UNKNOWN);
        rich("note(6, 0, 0, 0)", x -> x.note(6, 0, 0, 0), UNKNOWN);
        rich("note(0, -1, 0, 0)", x -> x.note(0, -1, 0, 0), UNKNOWN);
        rich("note(0, 3, 0, 0)", x -> x.note(0, 3, 0, 0), UNKNOWN);
        rich("note(0, 0, -1, 0)", x -> x.note(0, 0, -1, 0), UNKNOWN);
        rich("note(0, 0, 3, 0)", x -> x.note(0, 0, 3, 0), UNKNOWN);
        rich("note(0, 0, 0, -1)", x -> x.note(0, 0, 0, -1), UNKNOWN);
        rich("note(0, 0, 0, 3)", x -> x.note(0, 0, 0, 3), UNKNOWN);
    }

    private static void seen() {
        checks.sentence("LAWS: the SET. UNKNOWN.");
        rich("laws(-1)", x -> x.laws(-1), UNKNOWN);
        rich("laws(6)", x -> x.laws(6), UNKNOWN);
        checks.sentence("TRY; NONE. UNKNOWN, NOT: nobody.");
        rich("tryNext(-1)", x -> x.tryNext(-1), UNKNOWN);
        rich("tryNext(6)", x -> x.tryNext(6), UNKNOWN);
        checks.sentence("A DOING of a PERSON behind THE BOOK: how many. UNKNOWN, FULL (20).");
        rich("write(-1, 0)", x -> x.write(-1, 0), UNKNOWN);
        rich("write(6, 0)", x -> x.write(6, 0), UNKNOWN);
        rich("write(0, -1)", x -> x.write(0, -1), UNKNOWN);
        rich("write(0, 3)", x -> x.write(0, 3), UNKNOWN);
        checks.sentence("What = 0 WRONG (NONE), 1 THE DARLING behind. OUTSIDE, NOT: nobody.");
        rich("judge(-1)", x -> x.judge(-1), OUTSIDE);
        rich("judge(2)", x -> x.judge(2), OUTSIDE);
    }

    private static void poor(String call, ToIntFunction<StoveFavours> ask, int due) {
        refused(call, RefusedTest::poor, "", ask, due);
    }

    private static void notNow() {
        checks.sentence("NOT: not so many LOGS;");
        poor("act(0, 0)", x -> x.act(0, 0), NOT);
        poor("act(1, 1)", x -> x.act(1, 1), NOT);
        checks.sentence("NOT: not so many.");
        poor("undo(3)", x -> x.undo(3), NOT);
        refused("undo(1) of a new house", () -> fed("p5 1;"), "", x -> x.undo(1), NOT);
        checks.sentence("NOT: it was not kept.");
        poor("goBack(0)", x -> x.goBack(0), NOT);
        poor("goBack(1)", x -> x.goBack(1), NOT);
    }

    private static void none(String call, ToIntFunction<StoveFavours> ask, int due) {
        refused("nobody " + call, RefusedTest::nobodyAtHome, "", ask, due);
        refused("new " + call, StoveFavours::new, "p7 1;", ask, due);
    }

    private static void nobody() {
        checks.sentence("NOT: nobody");
        none("sit(1)", x -> x.sit(1), NOT);
        none("drift(1)", x -> x.drift(1), NOT);
        none("allWarm(1, 0)", x -> x.allWarm(1, 0), NOT);
        none("forEver(-1)", x -> x.forEver(NONE), NOT);
        none("fair()", x -> x.fair(), NOT);
        none("tryNext(0)", x -> x.tryNext(0), NOT);
        none("judge(0)", x -> x.judge(0), NOT);
        checks.sentence("UNKNOWN (a PERSON, DOING, LAW, IMAGE that there is not;");
        none("person(0, 0)", x -> x.person(0, 0), UNKNOWN);
        none("act(0, 0)", x -> x.act(0, 0), UNKNOWN);
        none("favour(0, 1, 0)", x -> x.favour(0, 1, 0), UNKNOWN);
        none("duel(0, 1, 1, 0)", x -> x.duel(0, 1, 1, 0), UNKNOWN);
        none("left(0, -1)", x -> x.left(0, NONE), UNKNOWN);
        none("doers(0)", x -> x.doers(0), UNKNOWN);
        none("chair(0)", x -> x.chair(0), UNKNOWN);
        none("note(0, 0, 0, 0)", x -> x.note(0, 0, 0, 0), UNKNOWN);
        none("write(0, 0)", x -> x.write(0, 0), UNKNOWN);
    }

    private static void full() {
        checks.sentence("FULL (200).");
        refused("feed(), the 201st", RefusedTest::fullText, "", x -> x.feed('p'), FULL);
        checks.sentence("FULL (12).");
        refused("note(), the 13th", RefusedTest::fullOfNotes, "", x -> x.note(5, 0, 0, 1), FULL);
        checks.sentence("FULL (20).");
        refused("write(), the 21st", RefusedTest::fullBook, "", x -> x.write(0, 1), FULL);
    }

    private static void unknownAheadOfOutside() {
        checks.sentence("REFUSALS, of several the first in this order: UNKNOWN");
        rich("person(3, 3)", x -> x.person(3, 3), UNKNOWN);
        rich("doing(6, 2)", x -> x.doing(6, 2), UNKNOWN);
        rich("favour(3, 4, 0)", x -> x.favour(3, 4, 0), UNKNOWN);
        rich("favour(-1, 0, -2)", x -> x.favour(-1, 0, -2), UNKNOWN);
        rich("duel(3, 0, 5, 2)", x -> x.duel(3, 0, 5, 2), UNKNOWN);
        rich("duel(0, 3, 0, -1)", x -> x.duel(0, 3, 0, -1), UNKNOWN);
        rich("duel(1, 1, 5, 2)", x -> x.duel(1, 1, 5, 2), UNKNOWN);
    }

    private static void unknownAheadOfNot() {
        checks.sentence("REFUSALS, of several the first in this order: UNKNOWN");
        poor("act(0, 2), too dear", x -> x.act(0, 2), UNKNOWN);
        poor("act(1, -1), too dear", x -> x.act(1, -1), UNKNOWN);
        none("forEver(0)", x -> x.forEver(0), UNKNOWN);
        none("forEver(-2)", x -> x.forEver(-2), UNKNOWN);
        none("tryNext(6)", x -> x.tryNext(6), UNKNOWN);
        none("tryNext(-1)", x -> x.tryNext(-1), UNKNOWN);
        none("goBack(2)", x -> x.goBack(2), UNKNOWN);
        none("goBack(-1)", x -> x.goBack(-1), UNKNOWN);
    }

    private static void unknownAheadOfFull() {
        checks.sentence("REFUSALS, of several the first in this order: UNKNOWN");
        refused("note(6, ..), the 13th", RefusedTest::fullOfNotes, "", x -> x.note(6, 0, 0, 1), UNKNOWN);
        refused("note(.., 2), the 13th", RefusedTest::fullOfNotes, "", x -> x.note(5, 0, 0, 2), UNKNOWN);
        refused("write(6, 0), the 21st", RefusedTest::fullBook, "", x -> x.write(6, 0), UNKNOWN);
        refused("write(0, 2), the 21st", RefusedTest::fullBook, "", x -> x.write(0, 2), UNKNOWN);
    }

    private static void outsideAheadOfNot() {
        checks.sentence("OUTSIDE (another number out of its bounds), NOT (not now, as told), FULL.");
        none("sit(0)", x -> x.sit(0), OUTSIDE);
        none("sit(100)", x -> x.sit(100), OUTSIDE);
        none("drift(0)", x -> x.drift(0), OUTSIDE);
        none("drift(100)", x -> x.drift(100), OUTSIDE);
        none("allWarm(0, 0)", x -> x.allWarm(0, 0), OUTSIDE);
        none("allWarm(4, 0)", x -> x.allWarm(4, 0), OUTSIDE);
        none("judge(-1)", x -> x.judge(-1), OUTSIDE);
        none("judge(2)", x -> x.judge(2), OUTSIDE);
        none("undo(0)", x -> x.undo(0), OUTSIDE);
        none("undo(31)", x -> x.undo(31), OUTSIDE);
    }

    private static void outsideAheadOfFull() {
        checks.sentence("OUTSIDE (another number out of its bounds), NOT (not now, as told), FULL.");
        refused("feed(256), the 201st", RefusedTest::fullText, "", x -> x.feed(256), OUTSIDE);
        refused("feed(-1), the 201st", RefusedTest::fullText, "", x -> x.feed(-1), OUTSIDE);
        StoveFavours late = late();
        checks.due("late sit(0)", late.sit(0), OUTSIDE);
        checks.due("late sit(100)", late.sit(100), OUTSIDE);
        checks.due("late drift(0)", late.drift(0), OUTSIDE);
        checks.due("late drift(100)", late.drift(100), OUTSIDE);
    }

    private static void notAheadOfFull() {
        checks.sentence("NOT: not so many LOGS; FULL: the hour is above 90000 (as it is called).");
        StoveFavours late = late();
        checks.due("late act(0, 2)", late.act(0, 2), UNKNOWN);
        checks.due("late act(0, 0), too dear", late.act(0, 0), NOT);
        checks.due("late act(1, 0)", late.act(1, 0), FULL);
        checks.due("late told(2)", late.told(2), 90001);
    }

    /** Hour 90001: no 512 calls reach it, so what is said of it is said beyond them. */
    private static StoveFavours late() {
        StoveFavours x = fed("p99 1;p5 0;d0 3 0;d1 1 0;s1 1 2;");
        for (int k = 0; k < 909; k++) {
            x.sit(99);
        }
        x.sit(10);
        return x;
    }

    private static void farBelow() {
        checks.sentence("They are far below all that is counted: -1000000001 and on.");
        int[] refusals = {UNKNOWN, OUTSIDE, NOT, FULL};
        for (int k = 0; k < 4; k++) {
            checks.due("refusal " + k, refusals[k], -1000000001 - k);
        }
    }

    /** Each call with numbers that there are not, near 32 (where shifts go round) and as far out as there are. */
    private static void noNumberThrows() {
        checks.sentence("What is refused changes nothing.");
        for (int far : new int[] {LEAST, LEAST + 1, -1000000001, 31, 32, 33, 64, 1 << 20, MOST - 1, MOST}) {
            farPeople("far " + far + " ", far);
            farDoings("far " + far + " ", far);
            if (far < 0 || far > 999) {
                farNumbers("far " + far + " ", far);
            }
        }
    }

    private static void farPeople(String far, int p) {
        rich(far + "person", x -> x.person(p, p), UNKNOWN);
        rich(far + "act", x -> x.act(p, p), UNKNOWN);
        rich(far + "favour", x -> x.favour(p, p, p), UNKNOWN);
        rich(far + "duel", x -> x.duel(p, p, p, p), UNKNOWN);
        rich(far + "forEver", x -> x.forEver(p), UNKNOWN);
        rich(far + "left", x -> x.left(p, p), UNKNOWN);
        rich(far + "doers", x -> x.doers(p), UNKNOWN);
        rich(far + "chair", x -> x.chair(p), UNKNOWN);
        rich(far + "note", x -> x.note(p, p, p, p), UNKNOWN);
        rich(far + "write", x -> x.write(p, p), UNKNOWN);
    }

    private static void farDoings(String far, int e) {
        rich(far + "doing", x -> x.doing(e, e), UNKNOWN);
        rich(far + "law", x -> x.law(e, e), UNKNOWN);
        rich(far + "laws", x -> x.laws(e), UNKNOWN);
        rich(far + "tryNext", x -> x.tryNext(e), UNKNOWN);
        rich(far + "keep", x -> x.keep(e), UNKNOWN);
        rich(far + "goBack", x -> x.goBack(e), UNKNOWN);
    }

    private static void farNumbers(String far, int n) {
        rich(far + "feed", x -> x.feed(n), OUTSIDE);
        rich(far + "told", x -> x.told(n), OUTSIDE);
        rich(far + "sit", x -> x.sit(n), OUTSIDE);
        rich(far + "drift", x -> x.drift(n), OUTSIDE);
        rich(far + "stack", x -> x.stack(n), OUTSIDE);
        rich(far + "undo", x -> x.undo(n), OUTSIDE);
        rich(far + "freezes", x -> x.freezes(n), OUTSIDE);
        rich(far + "favour's hours", x -> x.favour(0, n, 0), OUTSIDE);
        rich(far + "favour's hour", x -> x.favour(0, 1, n), NONE);
        rich(far + "allWarm", x -> x.allWarm(n, n), OUTSIDE);
        rich(far + "allWarm's hour", x -> x.allWarm(1, n), NONE);
        rich(far + "duel's hours", x -> x.duel(0, 1, n, 0), OUTSIDE);
        rich(far + "duel's what", x -> x.duel(0, 1, 1, n), OUTSIDE);
        rich(far + "left's place", x -> x.left(0, n), NONE);
        rich(far + "judge", x -> x.judge(n), OUTSIDE);
        if (n < 0) {
            rich(far + "seed", x -> x.seed(n), OUTSIDE);
        }
    }
}
