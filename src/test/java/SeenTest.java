/** Promises 23 to 31: what is noted, the book, the seed, images. */
public final class SeenTest {
    private static final int UNKNOWN = StoveFavours.UNKNOWN, OUTSIDE = StoveFavours.OUTSIDE, NOT = StoveFavours.NOT, FULL = StoveFavours.FULL;
    private static final Checks checks = new Checks("SeenTest");

    public static void main(String[] args) {
        notes();
        lawsThatFit();
        tries();
        book();
        judgements();
        tearing();
        seeds();
        images();
        imagesKeepAll();
        checks.finish();
    }

    /** Promise 23. */
    private static void notes() {
        StoveFavours x = checks.houseOf("p50 1;p40 1;", 2);
        checks.due("note(6, 0, 0, 0)", x.note(6, 0, 0, 0), UNKNOWN);
        checks.due("note(-1, 0, 0, 0)", x.note(-1, 0, 0, 0), UNKNOWN);
        checks.due("note(0, 2, 0, 0)", x.note(0, 2, 0, 0), UNKNOWN);
        checks.due("note(0, 0, 2, 0)", x.note(0, 0, 2, 0), UNKNOWN);
        checks.due("note(0, 0, 0, 2)", x.note(0, 0, 0, 2), UNKNOWN);
        checks.due("note(0, 0, 0, -1)", x.note(0, 0, 0, -1), UNKNOWN);
        for (int k = 1; k <= 12; k++) {
            checks.due("note(5, 1, 1, 1)", x.note(5, 1, 1, 1), k);
        }
        checks.due("note(5, 1, 1, 1), the 13th", x.note(5, 1, 1, 1), FULL);
        checks.due("note(5, 2, 1, 1), the 13th", x.note(5, 2, 1, 1), UNKNOWN);
        checks.due("told(7)", x.told(7), 12);
        checks.due("told(3)", x.told(3), 0);
    }

    /** Promise 24: bits 0, 1, 4, 5, 6 alone, whatever the doing's law is. */
    private static void lawsThatFit() {
        StoveFavours x = checks.houseOf("p50 1;p40 1;p30 1;p20 1;d0 0 2;", 4);
        checks.due("laws(0)", x.laws(0), 115);
        checks.due("note(0, 3, 3, 0)", x.note(0, 3, 3, 0), 1);
        checks.due("laws(0)", x.laws(0), 2 + 64);
        checks.due("note(0, 0, 3, 0)", x.note(0, 0, 3, 0), 2);
        checks.due("laws(0)", x.laws(0), 2);
        checks.due("note(1, 3, 0, 3)", x.note(1, 3, 0, 3), 3);
        checks.due("laws(1)", x.laws(1), 1 + 32);
        checks.due("laws(0)", x.laws(0), 2);
        checks.due("note(1, 2, 1, 0)", x.note(1, 2, 1, 0), 4);
        checks.due("laws(1)", x.laws(1), 32);
        checks.due("note(2, 1, 2, 2)", x.note(2, 1, 2, 2), 5);
        checks.due("laws(2)", x.laws(2), 16 + 64);
        checks.due("note(2, 2, 2, 1)", x.note(2, 2, 2, 1), 6);
        checks.due("laws(2)", x.laws(2), 0);
        checks.due("laws(5)", x.laws(5), 115);
        checks.due("laws(6)", x.laws(6), UNKNOWN);
        checks.due("laws(-1)", x.laws(-1), UNKNOWN);
        checks.due("nobody laws(0)", new StoveFavours().laws(0), 115);
    }

    /** Promise 25. */
    private static void tries() {
        StoveFavours x = checks.houseOf("p50 1;p40 1;p30 1;p20 1;p10 1;d0 0 0;s2 5 5;", 5);
        // of 2: law 1 makes 3, law 4 2, law 5 1; laws 0 and 6 of a doer 0 make 0 and 1, of 4 make 4 and 0
        checks.due("tryNext(0)", x.tryNext(0), 4);
        checks.due("note(0, 1, 1, 2)", x.note(0, 1, 1, 2), 1);
        checks.due("laws(0)", x.laws(0), 2 + 64);
        // of 2: law 1 makes 3, law 6 1 of a doer 0
        checks.due("tryNext(0)", x.tryNext(0), 0);
        checks.due("act(0, 0)", x.act(0, 0), 0);
        // of 0: law 1 makes 1, law 6 of a doer 0 too, of 1 2
        checks.due("tryNext(0)", x.tryNext(0), 1);
        checks.due("note(0, 0, 4, 0)", x.note(0, 0, 4, 0), 2);
        checks.due("tryNext(0), one law", x.tryNext(0), -1);
        checks.due("note(1, 0, 0, 3)", x.note(1, 0, 0, 3), 3);
        checks.due("tryNext(1), no law", x.tryNext(1), -1);
        checks.due("tryNext(6)", x.tryNext(6), UNKNOWN);
        checks.due("tryNext(-1)", x.tryNext(-1), UNKNOWN);
        checks.due("nobody tryNext(0)", new StoveFavours().tryNext(0), NOT);
        checks.due("nobody tryNext(6)", new StoveFavours().tryNext(6), UNKNOWN);
        StoveFavours alone = checks.houseOf("p50 1;", 1);
        checks.due("alone tryNext(0)", alone.tryNext(0), -1);
        StoveFavours two = checks.houseOf("p50 1;p50 1;", 2);
        // of 0: laws 1 and 5 make 1, law 4 0; laws 0 and 6 one of each, whoever does it
        checks.due("two tryNext(0)", two.tryNext(0), 0);
        checks.due("two note(0, 0, 0, 1)", two.note(0, 0, 0, 1), 1);
        // laws 1, 5, 6: a doer 0 makes 1 by all, a doer 1 makes 0 by law 6
        checks.due("two tryNext(0)", two.tryNext(0), 1);
    }

    /** Promise 26. */
    private static void book() {
        StoveFavours x = checks.houseOf("p50 1;p40 1;s0 1 0;", 2);
        checks.due("write(6, 0)", x.write(6, 0), UNKNOWN);
        checks.due("write(-1, 0)", x.write(-1, 0), UNKNOWN);
        checks.due("write(0, 2)", x.write(0, 2), UNKNOWN);
        checks.due("write(0, -1)", x.write(0, -1), UNKNOWN);
        for (int k = 1; k <= 20; k++) {
            checks.due("write(0, 1)", x.write(0, 1), k);
        }
        checks.due("write(0, 1), the 21st", x.write(0, 1), FULL);
        checks.due("write(0, 2), the 21st", x.write(0, 2), UNKNOWN);
        checks.due("told(8)", x.told(8), 20);
        checks.due("told(2)", x.told(2), 0);
    }

    /** Promise 27. */
    private static void judgements() {
        StoveFavours x = checks.houseOf("p50 1;p2 1;p2 2;d0 2 0;d1 0 2;d2 3 1;s0 4 6;", 3);
        checks.due("judge(0), no book", x.judge(0), -1);
        checks.due("judge(1), no book", x.judge(1), 0);
        x.write(0, 1);
        checks.due("judge(1)", x.judge(1), 1);
        x.write(1, 0);
        // behind an hour of 1: 49, 6, 0; so law 2 makes 2
        checks.due("judge(1)", x.judge(1), 2);
        x.write(2, 0);
        checks.due("judge(0)", x.judge(0), -1);
        checks.due("judge(1)", x.judge(1), 0);
        x.write(0, 2);
        checks.due("judge(0)", x.judge(0), 3);
        checks.due("judge(1)", x.judge(1), 0);
        x.write(1, 2);
        checks.due("judge(0)", x.judge(0), 3);
        checks.due("judge(1)", x.judge(1), 0);
        checks.due("told(4)", x.told(4), 6);
        checks.due("told(2)", x.told(2), 0);
        checks.due("stack(1)", x.stack(1), 7);
        checks.due("judge(0)", x.judge(0), -1);
        checks.due("judge(1)", x.judge(1), 1);
        checks.due("judge(2)", x.judge(2), OUTSIDE);
        checks.due("judge(-1)", x.judge(-1), OUTSIDE);
        checks.due("nobody judge(0)", new StoveFavours().judge(0), NOT);
        checks.due("nobody judge(2)", new StoveFavours().judge(2), OUTSIDE);
    }

    /** Promise 28. */
    private static void tearing() {
        StoveFavours x = checks.houseOf("p50 1;p40 1;", 2);
        checks.due("tear()", x.tear(), 0);
        x.note(0, 0, 0, 1);
        x.note(0, 0, 0, 0);
        x.write(0, 0);
        checks.due("tear()", x.tear(), 3);
        checks.due("tear() again", x.tear(), 0);
        checks.due("told(7)", x.told(7), 0);
        checks.due("told(8)", x.told(8), 0);
        checks.due("laws(0)", x.laws(0), 115);
        checks.due("write(1, 1)", x.write(1, 1), 1);
        checks.due("note(0, 0, 0, 1)", x.note(0, 0, 0, 1), 1);
    }

    /** Promise 29. */
    private static void seeds() {
        StoveFavours x = new StoveFavours();
        checks.due("seed(2147483647)", x.seed(2147483647), 0);
        checks.due("seed(-1)", x.seed(-1), OUTSIDE);
        checks.due("seed(-2147483648)", x.seed(-2147483648), OUTSIDE);
        checks.due("seed(0)", x.seed(0), 2147483647);
        checks.due("seed(3)", x.seed(3), 0);
    }

    /** Promises 30 and 31: one image beside the other. */
    private static void images() {
        StoveFavours x = checks.houseOf("p50 1;p40 1;", 2);
        checks.due("goBack(0)", x.goBack(0), NOT);
        checks.due("goBack(2)", x.goBack(2), UNKNOWN);
        checks.due("goBack(-1)", x.goBack(-1), UNKNOWN);
        checks.due("keep(2)", x.keep(2), UNKNOWN);
        checks.due("keep(-1)", x.keep(-1), UNKNOWN);
        checks.due("sit(3)", x.sit(3), 0);
        checks.due("told(9)", x.told(9), 3);
        checks.due("keep(1)", x.keep(1), 1);
        checks.due("told(9)", x.told(9), 0);
        checks.due("goBack(0)", x.goBack(0), NOT);
        checks.due("sit(4)", x.sit(4), 0);
        checks.due("keep(0)", x.keep(0), 1);
        checks.due("sit(2)", x.sit(2), 0);
        checks.due("goBack(1)", x.goBack(1), 1);
        checks.due("told(2)", x.told(2), 3);
        checks.due("told(9)", x.told(9), 0);
        checks.due("undo(1)", x.undo(1), NOT);
        checks.due("goBack(0)", x.goBack(0), 1);
        checks.due("told(2)", x.told(2), 7);
        checks.due("goBack(1)", x.goBack(1), 1);
        checks.due("told(2)", x.told(2), 3);
        checks.due("nobody keep(0)", new StoveFavours().keep(0), 1);
    }

    /** Promises 30 and 31: what an image keeps, and what stays as it is. */
    private static void imagesKeepAll() {
        StoveFavours x = checks.houseOf("p50 1;p40 2;d0 3 0;s0 5 20;", 2);
        checks.due("seed(12)", x.seed(12), 0);
        checks.due("act(0, 1)", x.act(0, 1), 1);
        checks.due("keep(0)", x.keep(0), 1);
        checks.due("act(0, 0)", x.act(0, 0), 0);
        checks.due("law(0, 6)", x.law(0, 6), 0);
        checks.due("stack(7)", x.stack(7), 21);
        checks.due("seed(13)", x.seed(13), 12);
        checks.due("note(0, 0, 0, 1)", x.note(0, 0, 0, 1), 1);
        checks.due("write(0, 0)", x.write(0, 0), 1);
        checks.feedAll(x, "p1");
        checks.due("goBack(0)", x.goBack(0), 1);
        int[] due = {2, 2, 1, 1, 17, 5, 0, 1, 1, 0};
        for (int what = 0; what < 10; what++) {
            checks.due("image told(" + what + ")", x.told(what), due[what]);
        }
        checks.due("person(0, 0)", x.person(0, 0), 49);
        checks.due("person(1, 0)", x.person(1, 0), 45);
        checks.due("person(0, 2)", x.person(0, 2), -1);
        checks.due("person(1, 2)", x.person(1, 2), 0);
        checks.due("doing(0, 1)", x.doing(0, 1), 0);
        checks.due("seed(0)", x.seed(0), 12);
        checks.due("seed(99)", x.seed(99), 0);
        checks.due("sit(1)", x.sit(1), 1);
        checks.due("goBack(0) once more", x.goBack(0), 1);
        checks.due("told(2)", x.told(2), 1);
        checks.due("seed(0)", x.seed(0), 12);
    }
}
