/** What was seen and the images, promises 23 to 31: each sentence of the document that names an edge, by itself. */
public final class SeenEdgesTest {
    private static final int NONE = StoveFavours.NONE, UNKNOWN = StoveFavours.UNKNOWN, OUTSIDE = StoveFavours.OUTSIDE;
    private static final int NOT = StoveFavours.NOT, FULL = StoveFavours.FULL;
    /** LAWS 0, 1, 4, 5, 6. */
    private static final int ALL = 115;
    static final Checks checks = new Checks("SeenEdgesTest");

    public static void main(String[] args) {
        notedAtMost();
        notedTwice();
        notedOfPeople();
        lawsOfNothing();
        lawsThatAreSeen();
        lawsRound();
        lawsOfOneDoing();
        lawsNone();
        lawsOfOnePerson();
        tryLeastPart();
        tryLeastPerson();
        tryAsNow();
        tryNone();
        bookAtMost();
        bookOfPeople();
        judgeWrong();
        judgePaid();
        judgeBehind();
        judgeEmptyBook();
        judgeFullBook();
        judgeWhat();
        tornBoth();
        tornFull();
        seedBounds();
        imagesTwo();
        imageKeepsAll();
        imageNotedStays();
        imageUndo();
        imageNotKept();
        imageAgain();
        imageOfNobody();
        checks.finish();
    }

    private static void notedAtMost() {
        checks.sentence("NOTED (12 at most):");
        StoveFavours x = checks.houseOf("p50 1;p40 1;", 2);
        for (int k = 1; k <= 11; k++) {
            checks.due("note(0, 0, 0, 1)", x.note(0, 0, 0, 1), k);
        }
        checks.due("the 12th", x.note(1, 0, 0, 0), 12);
        checks.due("the 13th", x.note(2, 0, 0, 0), FULL);
        checks.due("told(7)", x.told(7), 12);
        checks.due("laws(1) by the 12th", x.laws(1), 1 + 16);
        checks.due("laws(2), not by the 13th", x.laws(2), ALL);
    }

    private static void notedTwice() {
        checks.sentence("(who did it, who was, who became THE DARLING; one twice or thrice, too)");
        StoveFavours x = checks.houseOf("p50 1;p40 1;p30 1;", 3);
        checks.due("note(0, 1, 1, 1)", x.note(0, 1, 1, 1), 1);
        checks.due("note(0, 1, 1, 2)", x.note(0, 1, 1, 2), 2);
        checks.due("note(0, 1, 2, 2)", x.note(0, 1, 2, 2), 3);
        checks.due("note(0, 1, 2, 1)", x.note(0, 1, 2, 1), 4);
        checks.due("note(0, 1, 1, 1) again", x.note(0, 1, 1, 1), 5);
    }

    private static void notedOfPeople() {
        checks.sentence("one twice or thrice, too): how much. UNKNOWN, FULL (12).");
        StoveFavours x = checks.houseOf("p1 1;p1 1;p1 1;p1 1;p1 1;", 5);
        checks.due("note(5, 4, 4, 4)", x.note(5, 4, 4, 4), 1);
        checks.due("note(0, 0, 0, 0)", x.note(0, 0, 0, 0), 2);
        checks.due("note(6, 0, 0, 0)", x.note(6, 0, 0, 0), UNKNOWN);
        checks.due("note(0, 5, 0, 0)", x.note(0, 5, 0, 0), UNKNOWN);
        checks.due("note(0, 0, 5, 0)", x.note(0, 0, 5, 0), UNKNOWN);
        checks.due("note(0, 0, 0, 5)", x.note(0, 0, 0, 5), UNKNOWN);
        checks.due("note(-1, 0, 0, 0)", x.note(-1, 0, 0, 0), UNKNOWN);
        checks.due("note(0, -1, 0, 0)", x.note(0, -1, 0, 0), UNKNOWN);
        checks.due("note(0, 0, -1, 0)", x.note(0, 0, -1, 0), UNKNOWN);
        checks.due("note(0, 0, 0, -1)", x.note(0, 0, 0, -1), UNKNOWN);
        checks.due("told(7)", x.told(7), 2);
    }

    private static void lawsOfNothing() {
        checks.sentence("LAWS of a DOING: those of 0, 1, 4, 5, 6 by which all NOTED of it is so (a SET of bits).");
        StoveFavours x = checks.houseOf("p1 1;p1 1;d0 0 2;d1 0 3;", 2);
        for (int e = 0; e < 6; e++) {
            checks.due("laws(" + e + ")", x.laws(e), ALL);
        }
        checks.due("new laws(5)", new StoveFavours().laws(5), ALL);
        checks.due("laws(6)", x.laws(6), UNKNOWN);
        checks.due("laws(-1)", x.laws(-1), UNKNOWN);
    }

    private static void lawsThatAreSeen() {
        checks.sentence("LAWS of a DOING: those of 0, 1, 4, 5, 6 by which all NOTED of it is so (a SET of bits).");
        int[][] rows = {{3, 1, 3, 1}, {3, 1, 2, 2}, {3, 1, 1, 16}, {3, 1, 0, 32}, {2, 0, 3, 64}};
        for (int[] row : rows) {
            StoveFavours x = checks.houseOf("p1 1;p1 1;p1 1;p1 1;p1 1;", 5);
            checks.due("note()", x.note(4, row[0], row[1], row[2]), 1);
            checks.due("laws(4)", x.laws(4), row[3]);
        }
    }

    private static void lawsRound() {
        checks.sentence("LAWS of a DOING: those of 0, 1, 4, 5, 6 by which all NOTED of it is so (a SET of bits).");
        int[][] rows = {{2, 4, 0, 2}, {2, 0, 4, 32}, {4, 2, 0, 64}, {4, 4, 0, 2 + 64}, {4, 4, 4, 1 + 16}, {0, 0, 4, 32}};
        for (int[] row : rows) {
            StoveFavours x = checks.houseOf("p1 1;p1 1;p1 1;p1 1;p1 1;", 5);
            checks.due("note()", x.note(4, row[0], row[1], row[2]), 1);
            checks.due("laws(4)", x.laws(4), row[3]);
        }
    }

    private static void lawsOfOneDoing() {
        checks.sentence("by which all NOTED of it is so");
        StoveFavours x = checks.houseOf("p1 1;p1 1;p1 1;", 3);
        checks.due("note(0, 0, 1, 0)", x.note(0, 0, 1, 0), 1);
        checks.due("laws(0)", x.laws(0), 1 + 32);
        checks.due("laws(1), of which nothing is noted", x.laws(1), ALL);
        checks.due("note(1, 0, 1, 2)", x.note(1, 0, 1, 2), 2);
        checks.due("laws(0)", x.laws(0), 1 + 32);
        checks.due("laws(1)", x.laws(1), 2);
        checks.due("note(0, 2, 0, 2)", x.note(0, 2, 0, 2), 3);
        checks.due("laws(0), 2 by itself or round", x.laws(0), 1 + 32);
        checks.due("note(0, 2, 2, 1)", x.note(0, 2, 2, 1), 4);
        checks.due("laws(0)", x.laws(0), 32);
    }

    private static void lawsNone() {
        checks.sentence("(a SET of bits).");
        StoveFavours x = checks.houseOf("p1 1;p1 1;p1 1;p1 1;", 4);
        checks.due("note(0, 0, 0, 2)", x.note(0, 0, 0, 2), 1);
        checks.due("laws(0)", x.laws(0), 0);
        checks.due("note(1, 0, 0, 0)", x.note(1, 0, 0, 0), 2);
        checks.due("note(1, 1, 2, 3)", x.note(1, 1, 2, 3), 3);
        checks.due("laws(1), each noted alone has some", x.laws(1), 0);
    }

    private static void lawsOfOnePerson() {
        checks.sentence("1 the next one by number behind THE DARLING (round);");
        StoveFavours x = checks.houseOf("p1 1;", 1);
        checks.due("note(0, 0, 0, 0)", x.note(0, 0, 0, 0), 1);
        checks.due("laws(0)", x.laws(0), ALL);
    }

    private static void tryLeastPart() {
        checks.sentence("so that of those LAWS the greatest part that ends alike is least;");
        // of 0: LAW 1 ends at 1, LAW 4 at 0, LAW 5 at 3; of a doer 1 LAWS 0, 6 end at 1, 2: the greatest part is 2
        // of a doer 0 at 0, 1: 2; of a doer 2 at 2, 3: 2; of a doer 3 at 3, 0: 2
        StoveFavours x = checks.houseOf("p1 1;p1 1;p1 1;p1 1;", 4);
        checks.due("tryNext(0)", x.tryNext(0), 0);
        // with five people a doer 2 ends at 2, 3: all five are apart
        StoveFavours five = checks.houseOf("p1 1;p1 1;p1 1;p1 1;p1 1;", 5);
        checks.due("tryNext(0)", five.tryNext(0), 2);
        // LAWS 0, 5: of 0 it would end at 4 by LAW 5, so any doer but 4 parts them
        checks.due("note(0, 2, 3, 2)", five.note(0, 2, 3, 2), 1);
        checks.due("laws(0)", five.laws(0), 1 + 32);
        checks.due("tryNext(0)", five.tryNext(0), 0);
    }

    private static void tryLeastPerson() {
        checks.sentence("of like ones the least;");
        // LAWS 1, 6: apart by any doer but THE DARLING
        StoveFavours x = checks.houseOf("p1 1;p1 1;p1 1;s0 1 1;", 3);
        checks.due("note(0, 1, 1, 2)", x.note(0, 1, 1, 2), 1);
        checks.due("laws(0)", x.laws(0), 2 + 64);
        checks.due("tryNext(0)", x.tryNext(0), 1);
        StoveFavours y = checks.houseOf("p1 1;p1 1;p1 1;s2 1 1;", 3);
        checks.due("note(0, 1, 1, 2)", y.note(0, 1, 1, 2), 1);
        checks.due("tryNext(0)", y.tryNext(0), 0);
        // LAWS 0, 1: apart by any doer but the next one
        StoveFavours z = checks.houseOf("p1 1;p1 1;p1 1;p1 1;s3 1 1;", 4);
        checks.due("note(0, 3, 2, 3)", z.note(0, 3, 2, 3), 1);
        checks.due("laws(0)", z.laws(0), 1 + 2);
        checks.due("tryNext(0)", z.tryNext(0), 1);
    }

    private static void tryAsNow() {
        checks.sentence("(THE DARLING as now)");
        StoveFavours x = checks.houseOf("p1 1;p1 1;p1 1;d0 0 0;s0 1 1;", 3);
        checks.due("note(1, 1, 1, 2)", x.note(1, 1, 1, 2), 1);
        checks.due("tryNext(1) of 0", x.tryNext(1), 1);
        checks.due("act(0, 1)", x.act(0, 1), 1);
        checks.due("tryNext(1) of 1", x.tryNext(1), 0);
        checks.due("undo(1)", x.undo(1), 0);
        checks.due("tryNext(1) of 0", x.tryNext(1), 1);
    }

    private static void tryNone() {
        checks.sentence("NONE: none parts them.");
        StoveFavours x = checks.houseOf("p1 1;p1 1;p1 1;", 3);
        checks.due("note(0, 0, 1, 2)", x.note(0, 0, 1, 2), 1);
        checks.due("laws(0), one", x.laws(0), 2);
        checks.due("tryNext(0)", x.tryNext(0), NONE);
        checks.due("note(0, 0, 1, 1)", x.note(0, 0, 1, 1), 2);
        checks.due("laws(0), none", x.laws(0), 0);
        checks.due("tryNext(0)", x.tryNext(0), NONE);
        StoveFavours alone = checks.houseOf("p1 1;", 1);
        checks.due("alone tryNext(0), all five end alike", alone.tryNext(0), NONE);
        // of two people LAWS 1, 5 always end alike
        StoveFavours two = checks.houseOf("p1 1;p1 1;", 2);
        checks.due("note(0, 0, 0, 1)", two.note(0, 0, 0, 1), 1);
        checks.due("note(0, 1, 0, 1)", two.note(0, 1, 0, 1), 2);
        checks.due("laws(0)", two.laws(0), 2 + 32);
        checks.due("tryNext(0)", two.tryNext(0), NONE);
        checks.due("nobody tryNext(0)", new StoveFavours().tryNext(0), NOT);
    }

    private static void bookAtMost() {
        checks.sentence("THE BOOK (20 at most)");
        StoveFavours x = checks.houseOf("p50 1;p40 1;d0 0 0;s0 5 0;", 2);
        for (int k = 1; k <= 19; k++) {
            checks.due("write(0, 0)", x.write(0, 0), k);
        }
        checks.due("the 20th", x.write(0, 1), 20);
        checks.due("the 21st", x.write(0, 0), FULL);
        checks.due("told(8)", x.told(8), 20);
        checks.due("judge(1), by the 20th", x.judge(1), 1);
    }

    private static void bookOfPeople() {
        checks.sentence("A DOING of a PERSON behind THE BOOK: how many. UNKNOWN, FULL (20).");
        StoveFavours x = checks.houseOf("p1 1;p1 1;p1 1;p1 1;p1 1;d5 0 0;", 5);
        checks.due("write(5, 4)", x.write(5, 4), 1);
        checks.due("judge(1)", x.judge(1), 4);
        checks.due("write(0, 0)", x.write(0, 0), 2);
        checks.due("write(5, 0)", x.write(5, 0), 3);
        checks.due("judge(1)", x.judge(1), 0);
        checks.due("write(6, 0)", x.write(6, 0), UNKNOWN);
        checks.due("write(-1, 0)", x.write(-1, 0), UNKNOWN);
        checks.due("write(0, 5)", x.write(0, 5), UNKNOWN);
        checks.due("write(0, -1)", x.write(0, -1), UNKNOWN);
        checks.due("told(8)", x.told(8), 3);
    }

    private static void judgeWrong() {
        checks.sentence("WRONG: the first DOING that cannot be paid; NONE;");
        StoveFavours x = checks.houseOf("p50 1;p50 1;d0 4 0;d1 1 0;d2 0 0;s0 4 9;", 2);
        x.write(0, 1);
        x.write(0, 0);
        checks.due("judge(0), 8 of 9", x.judge(0), NONE);
        x.write(0, 1);
        checks.due("judge(0), 12 of 9", x.judge(0), 2);
        x.write(1, 1);
        x.write(2, 1);
        checks.due("judge(0), though the next one could be paid", x.judge(0), 2);
        checks.due("stack(2)", x.stack(2), 11);
        checks.due("judge(0), 12 of 11", x.judge(0), 2);
        checks.due("stack(1)", x.stack(1), 12);
        checks.due("judge(0), 13 of 12", x.judge(0), 3);
        checks.due("stack(1)", x.stack(1), 13);
        checks.due("judge(0), 13 of 13", x.judge(0), NONE);
    }

    private static void judgePaid() {
        checks.sentence("the first DOING that cannot be paid;");
        StoveFavours x = checks.houseOf("p50 1;p50 1;d0 9 0;d1 0 0;s0 4 8;", 2);
        x.write(0, 1);
        checks.due("judge(0), 9 of 8", x.judge(0), 0);
        checks.due("judge(1)", x.judge(1), 0);
        checks.due("stack(1)", x.stack(1), 9);
        checks.due("judge(0), 9 of 9", x.judge(0), NONE);
        checks.due("judge(1)", x.judge(1), 1);
        x.write(1, 0);
        checks.due("judge(0), 0 of 0", x.judge(0), NONE);
        checks.due("judge(1)", x.judge(1), 0);
    }

    private static void judgeBehind() {
        checks.sentence("THE DARLING behind all ahead of it.");
        StoveFavours x = checks.houseOf("p50 1;p50 1;p50 1;d0 1 0;d1 0 0;s2 4 2;", 3);
        x.write(0, 1);
        x.write(0, 0);
        x.write(0, 1);
        x.write(1, 2);
        checks.due("judge(0)", x.judge(0), 2);
        checks.due("judge(1)", x.judge(1), 0);
        // each doing an hour: by LAW 2 behind an hour of 2 it is 0, behind one of 0 it is 1
        StoveFavours hours = checks.houseOf("p50 9;p50 5;p50 1;d0 0 2;d1 0 0;s2 4 2;", 3);
        hours.write(1, 2);
        hours.write(0, 0);
        checks.due("judge(1)", hours.judge(1), 0);
        hours.write(1, 0);
        hours.write(1, 0);
        hours.write(0, 0);
        checks.due("judge(1)", hours.judge(1), 1);
        checks.warmth(hours, 50, 50, 50);
    }

    private static void judgeEmptyBook() {
        checks.sentence("What = 0 WRONG (NONE), 1 THE DARLING behind.");
        StoveFavours x = checks.houseOf("p50 1;p50 1;s1 4 0;", 2);
        checks.due("judge(0)", x.judge(0), NONE);
        checks.due("judge(1)", x.judge(1), 1);
    }

    private static void judgeFullBook() {
        checks.sentence("JUDGED: THE BOOK (20 at most) from now (each DOING an hour):");
        StoveFavours x = checks.houseOf("p50 1;p50 1;d0 1 1;s1 4 19;", 2);
        for (int k = 0; k < 20; k++) {
            x.write(0, 0);
        }
        checks.due("judge(0), 20 of 19", x.judge(0), 19);
        checks.due("judge(1)", x.judge(1), 0);
        checks.due("stack(1)", x.stack(1), 20);
        checks.due("judge(0), 20 of 20", x.judge(0), NONE);
        checks.due("judge(1)", x.judge(1), 1);
    }

    private static void judgeWhat() {
        checks.sentence("What = 0 WRONG (NONE), 1 THE DARLING behind. OUTSIDE, NOT: nobody.");
        StoveFavours x = checks.houseOf("p50 1;", 1);
        checks.due("judge(-1)", x.judge(-1), OUTSIDE);
        checks.due("judge(2)", x.judge(2), OUTSIDE);
        checks.due("nobody judge(0)", new StoveFavours().judge(0), NOT);
        checks.due("nobody judge(1)", new StoveFavours().judge(1), NOT);
        checks.due("nobody judge(2)", new StoveFavours().judge(2), OUTSIDE);
    }

    private static void tornBoth() {
        checks.sentence("Nothing NOTED, no BOOK: how much both had.");
        StoveFavours x = checks.houseOf("p50 1;p50 1;", 2);
        checks.due("tear() of nothing", x.tear(), 0);
        x.note(0, 0, 0, 1);
        checks.due("tear() of one noted", x.tear(), 1);
        checks.due("laws(0)", x.laws(0), ALL);
        x.write(0, 0);
        checks.due("tear() of one line", x.tear(), 1);
        checks.due("forEver(-1)", x.forEver(NONE), NONE);
        checks.due("told(7)", x.told(7), 0);
        checks.due("told(8)", x.told(8), 0);
        checks.due("nobody tear()", new StoveFavours().tear(), 0);
    }

    private static void tornFull() {
        checks.sentence("how much both had.");
        StoveFavours x = checks.houseOf("p50 1;p50 1;", 2);
        for (int k = 0; k < 20; k++) {
            x.write(0, 0);
            x.note(0, 0, 0, 1);
        }
        checks.due("tear() of 12 and 20", x.tear(), 32);
        checks.due("tear() again", x.tear(), 0);
        checks.due("note(1, 0, 0, 1)", x.note(1, 0, 0, 1), 1);
        checks.due("write(1, 0)", x.write(1, 0), 1);
        checks.due("laws(0), noted ahead of tear()", x.laws(0), ALL);
    }

    private static void seedBounds() {
        checks.sentence("THE SEED becomes v (0 .. 2147483647): what it was.");
        StoveFavours x = new StoveFavours();
        checks.due("seed(0), 0 at first", x.seed(0), 0);
        checks.due("seed(2147483647)", x.seed(Integer.MAX_VALUE), 0);
        checks.due("seed(-1)", x.seed(-1), OUTSIDE);
        checks.due("seed(-2147483648)", x.seed(Integer.MIN_VALUE), OUTSIDE);
        checks.due("seed(1)", x.seed(1), Integer.MAX_VALUE);
        checks.due("seed(0)", x.seed(0), 1);
    }

    private static void imagesTwo() {
        checks.sentence("IMAGES 0, 1 keep all of section 2 (LAWS, LOGS too), THE SEED");
        StoveFavours x = checks.houseOf("p50 1;p50 1;", 2);
        checks.due("keep(-1)", x.keep(-1), UNKNOWN);
        checks.due("keep(0)", x.keep(0), 1);
        checks.due("sit(5)", x.sit(5), 0);
        checks.due("keep(1)", x.keep(1), 1);
        checks.due("keep(2)", x.keep(2), UNKNOWN);
        checks.due("sit(5)", x.sit(5), 0);
        checks.due("goBack(-1)", x.goBack(-1), UNKNOWN);
        checks.due("goBack(0)", x.goBack(0), 1);
        checks.due("told(2)", x.told(2), 0);
        checks.due("goBack(1)", x.goBack(1), 1);
        checks.due("told(2)", x.told(2), 5);
        checks.due("goBack(2)", x.goBack(2), UNKNOWN);
        checks.due("told(2)", x.told(2), 5);
    }

    private static void imageKeepsAll() {
        checks.sentence("keep all of section 2 (LAWS, LOGS too), THE SEED");
        StoveFavours x = checks.houseOf("p50 1;p40 2;p30 3;d0 3 0;s0 5 20;", 3);
        checks.due("act(0, 1)", x.act(0, 1), 1);
        checks.due("law(4, 6)", x.law(4, 6), 4);
        checks.due("seed(12)", x.seed(12), 0);
        checks.due("keep(0)", x.keep(0), 1);
        checks.due("act(0, 2)", x.act(0, 2), 2);
        checks.due("stack(9)", x.stack(9), 23);
        checks.due("law(4, 2)", x.law(4, 2), 6);
        checks.due("law(0, 5)", x.law(0, 5), 0);
        checks.due("seed(13)", x.seed(13), 12);
        checks.due("goBack(0)", x.goBack(0), 1);
        checks.told(x, 3, 0, 1, 1, 17, 5, 0, 0, 0, 0);
        checks.warmth(x, 49, 45, 27);
        checks.since(x, NONE, 0, NONE);
        checks.due("doing(4, 1)", x.doing(4, 1), 6);
        checks.due("doing(0, 1)", x.doing(0, 1), 0);
        checks.due("seed(0)", x.seed(0), 12);
    }

    private static void imageNotedStays() {
        checks.sentence("THE SEED (what is NOTED, THE BOOK stay).");
        StoveFavours x = checks.houseOf("p50 1;p40 2;d0 0 0;", 2);
        x.note(0, 1, 0, 1);
        x.write(0, 1);
        checks.due("keep(0)", x.keep(0), 1);
        checks.due("told(7)", x.told(7), 1);
        checks.due("told(8)", x.told(8), 1);
        x.note(0, 1, 1, 1);
        x.write(0, 0);
        checks.due("goBack(0)", x.goBack(0), 1);
        checks.due("told(7)", x.told(7), 2);
        checks.due("told(8)", x.told(8), 2);
        checks.due("laws(0)", x.laws(0), 1);
        checks.due("judge(1)", x.judge(1), 0);
        checks.due("tear()", x.tear(), 4);
        checks.due("goBack(0)", x.goBack(0), 1);
        checks.due("told(7) of what was torn", x.told(7), 0);
        checks.due("told(8) of what was torn", x.told(8), 0);
    }

    private static void imageUndo() {
        checks.sentence("(nothing can be undone then): 1.");
        StoveFavours x = checks.houseOf("p50 1;", 1);
        checks.due("sit(40)", x.sit(40), 0);
        checks.due("keep(1)", x.keep(1), 1);
        checks.due("told(9)", x.told(9), 0);
        checks.due("undo(1)", x.undo(1), NOT);
        checks.due("told(2)", x.told(2), 40);
        checks.due("sit(2)", x.sit(2), 0);
        checks.due("goBack(1)", x.goBack(1), 1);
        checks.due("told(9)", x.told(9), 0);
        checks.due("undo(1)", x.undo(1), NOT);
        checks.due("sit(1)", x.sit(1), 0);
        checks.due("undo(2)", x.undo(2), NOT);
        checks.due("undo(1)", x.undo(1), 40);
    }

    private static void imageNotKept() {
        checks.sentence("UNKNOWN, NOT: it was not kept.");
        StoveFavours x = checks.houseOf("p50 1;", 1);
        checks.due("goBack(0)", x.goBack(0), NOT);
        checks.due("goBack(1)", x.goBack(1), NOT);
        checks.due("keep(1)", x.keep(1), 1);
        checks.due("goBack(0)", x.goBack(0), NOT);
        checks.due("goBack(1)", x.goBack(1), 1);
        checks.due("keep(0)", x.keep(0), 1);
        checks.feedAll(x, "p7 1;");
        checks.due("house()", x.house(), 1);
        checks.due("goBack(0) of the house ahead", x.goBack(0), NOT);
        checks.due("goBack(1) of the house ahead", x.goBack(1), NOT);
    }

    private static void imageAgain() {
        checks.sentence("IMAGE i becomes what is so");
        StoveFavours x = checks.houseOf("p50 1;p9 1;s0 5 5;", 2);
        checks.due("keep(0)", x.keep(0), 1);
        checks.due("sit(2)", x.sit(2), 0);
        checks.due("keep(0) over it", x.keep(0), 1);
        checks.due("sit(3)", x.sit(3), 0);
        for (int k = 0; k < 3; k++) {
            checks.due("goBack(0)", x.goBack(0), 1);
            checks.told(x, 2, 0, 2, 0, 5);
            checks.warmth(x, 60, 7);
            // what is so goes on from the image, the image stays
            checks.due("sit(4)", x.sit(4), 0);
            checks.due("stack(5)", x.stack(5), 10);
        }
    }

    private static void imageOfNobody() {
        checks.sentence("IMAGE i becomes what is so");
        StoveFavours x = new StoveFavours();
        checks.due("keep(0)", x.keep(0), 1);
        checks.due("stack(5)", x.stack(5), 25);
        checks.due("law(0, 1)", x.law(0, 1), 4);
        checks.due("goBack(0)", x.goBack(0), 1);
        checks.told(x, 0, 0, 0, NONE, 20, 5, 0, 0, 0, 0);
        checks.due("doing(0, 1)", x.doing(0, 1), 4);
    }
}
