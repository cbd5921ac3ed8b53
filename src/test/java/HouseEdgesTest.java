/** Section 1 of the document and promises 1 to 7: each sentence that names an edge, by itself. */
public final class HouseEdgesTest {
    private static final int NONE = StoveFavours.NONE, UNKNOWN = StoveFavours.UNKNOWN, OUTSIDE = StoveFavours.OUTSIDE;
    private static final int NOT = StoveFavours.NOT, FULL = StoveFavours.FULL;
    static final Checks checks = new Checks("HouseEdgesTest");

    public static void main(String[] args) {
        newObject();
        letters();
        fullText();
        lettersAtMost();
        people();
        warmthTold();
        colderTold();
        doingTold();
        doingCost();
        doingLaw();
        doingsOnce();
        untoldDoings();
        likedTold();
        gainTold();
        logsTold();
        untoldStove();
        stoveOnce();
        figures();
        words();
        blanks();
        noOtherBlanks();
        sideBySide();
        firstFault();
        faultAtTheEnd();
        faultAtTheEndBehindLonger();
        leastFault();
        letterThatCannotStand();
        numberOutOfBounds();
        personNotTold();
        sixthPerson();
        doingAgain();
        emptyText();
        textIsGone();
        houseAnew();
        seedStays();
        howManyPeople();
        faultNumbers();
        faultKeepsAll();
        faultPlace();
        toldAll();
        darlingOfNobody();
        frozenSet();
        personAll();
        doingAll();
        checks.finish();
    }

    private static void newObject() {
        checks.sentence("`StoveFavours()`: Nobody.");
        StoveFavours x = new StoveFavours();
        checks.told(x, 0, 0, 0, NONE, 20, 5, 0, 0, 0, 0);
        checks.due("fault()", x.fault(), NONE);
        checks.due("person(0, 0)", x.person(0, 0), UNKNOWN);
        checks.due("sit(1)", x.sit(1), NOT);
        checks.due("goBack(0)", x.goBack(0), NOT);
        checks.due("goBack(1)", x.goBack(1), NOT);
    }

    private static void letters() {
        checks.sentence("A letter (0 .. 255) comes behind THE TEXT: how many it has.");
        StoveFavours x = new StoveFavours();
        checks.due("feed(-1)", x.feed(-1), OUTSIDE);
        checks.due("feed(0)", x.feed(0), 1);
        checks.due("feed(255)", x.feed(255), 2);
        checks.due("feed(256)", x.feed(256), OUTSIDE);
        checks.due("told(1)", x.told(1), 2);
    }

    private static void fullText() {
        checks.sentence("OUTSIDE, FULL (200).");
        StoveFavours x = new StoveFavours();
        checks.feedAll(x, " ".repeat(199));
        checks.due("feed(32), the 200th", x.feed(32), 200);
        checks.due("feed(32), the 201st", x.feed(32), FULL);
        checks.due("feed(32), the 202nd", x.feed(32), FULL);
        checks.due("told(1)", x.told(1), 200);
        checks.due("house()", x.house(), 0);
        checks.due("feed(32) into the next text", x.feed(32), 1);
    }

    private static void lettersAtMost() {
        checks.sentence("is told in a text (200 letters at most), letter by letter:");
        checks.houseOf("p1 1;" + " ".repeat(190) + "p2 2;", 2);
        checks.houseOf(" ".repeat(195) + "p2 2;", 1);
        checks.faulty(" ".repeat(196) + "p2 2", 1, 200);
        checks.faulty(" ".repeat(199) + "p", 1, 200);
        checks.faulty(" ".repeat(199) + "x", 1, 199);
    }

    private static void people() {
        checks.sentence("'p' W C ';' (5 PEOPLE at most:");
        checks.houseOf("p1 1;", 1);
        StoveFavours x = checks.houseOf("p1 9;p2 8;p3 7;p4 6;p5 5;", 5);
        checks.warmth(x, 1, 2, 3, 4, 5);
        checks.due("person(4, 1)", x.person(4, 1), 5);
        checks.due("person(5, 0)", x.person(5, 0), UNKNOWN);
        checks.faulty("p1 9;p2 8;p3 7;p4 6;p5 5;p6 4;", 3, 25);
        // five in each text
        checks.feedAll(x, "p1 9;p2 8;p3 7;p4 6;p5 5;");
        checks.due("house()", x.house(), 5);
    }

    private static void warmthTold() {
        checks.sentence("WARMTH W 0 .. 99;");
        checks.warmth(checks.houseOf("p0 1;p99 1;", 2), 0, 99);
        checks.faulty("p100 1;", 2, 1);
        checks.faulty("p-1 1;", 1, 1);
    }

    private static void colderTold() {
        checks.sentence("gets COLDER by C an hour, 0 .. 9)");
        StoveFavours x = checks.houseOf("p5 0;p5 9;", 2);
        checks.due("person(0, 1)", x.person(0, 1), 0);
        checks.due("person(1, 1)", x.person(1, 1), 9);
        checks.faulty("p5 10;", 2, 3);
        checks.faulty("p5 -1;", 1, 3);
    }

    private static void doingTold() {
        checks.sentence("(DOING E 0 fed beech, 1 fed coal, 2 sung, 3 read, 4 lied, 5 an old tune:");
        StoveFavours x = checks.houseOf("d0 7 3;d5 8 2;", 0);
        checks.due("doing(0, 0)", x.doing(0, 0), 7);
        checks.due("doing(5, 0)", x.doing(5, 0), 8);
        checks.faulty("d6 7 3;", 2, 1);
        checks.faulty("d-1 7 3;", 1, 1);
    }

    private static void doingCost() {
        checks.sentence("costs L LOGS, 0 .. 9;");
        StoveFavours x = checks.houseOf("d1 0 3;d2 9 3;", 0);
        checks.due("doing(1, 0)", x.doing(1, 0), 0);
        checks.due("doing(2, 0)", x.doing(2, 0), 9);
        checks.faulty("d1 10 3;", 2, 3);
        checks.faulty("d1 -1 3;", 1, 3);
    }

    private static void doingLaw() {
        checks.sentence("LAW K 0 .. 6;");
        StoveFavours x = checks.houseOf("d1 2 0;d2 2 6;", 0);
        checks.due("doing(1, 1)", x.doing(1, 1), 0);
        checks.due("doing(2, 1)", x.doing(2, 1), 6);
        checks.faulty("d1 2 7;", 2, 5);
        checks.faulty("d1 2 -1;", 1, 5);
    }

    private static void doingsOnce() {
        checks.sentence("each once;");
        StoveFavours x = checks.houseOf("d5 0 0;d4 1 1;d3 2 2;d2 3 3;d1 4 5;d0 5 6;", 0);
        for (int e = 0; e < 6; e++) {
            checks.due("doing(" + e + ", 0)", x.doing(e, 0), 5 - e);
        }
        for (int e = 0; e < 6; e++) {
            checks.faulty("d5 0 0;d4 1 1;d3 2 2;d2 3 3;d1 4 5;d0 5 6;d" + e + " 0 0;", 4, 43);
        }
        // once in each text
        for (int people : new int[] {0, -14, 0, 0}) {
            checks.feedAll(x, people < 0 ? "d0 1 1;d0 1 1;" : "d0 1 1;d5 1 1;");
            checks.due("house()", x.house(), people);
        }
    }

    private static void untoldDoings() {
        checks.sentence("untold: 1 LOG, LAW 4)");
        StoveFavours x = checks.houseOf("d0 3 2;d1 4 3;d2 5 1;d3 6 0;d4 7 5;d5 8 6;", 0);
        checks.feedAll(x, "d3 0 0;");
        checks.due("house()", x.house(), 0);
        for (int e = 0; e < 6; e++) {
            checks.due("doing(" + e + ", 0)", x.doing(e, 0), e == 3 ? 0 : 1);
            checks.due("doing(" + e + ", 1)", x.doing(e, 1), e == 3 ? 0 : 4);
        }
    }

    private static void likedTold() {
        checks.sentence("likes PERSON H told ahead;");
        checks.due("told(3)", checks.houseOf("p1 1;s0 1 1;", 1).told(3), 0);
        checks.due("told(3)", checks.houseOf("p1 1;p1 1;s1 1 1;", 2).told(3), 1);
        checks.due("told(3)", checks.houseOf("p1 1;p1 1;p1 1;p1 1;p1 1;s4 1 1;", 5).told(3), 4);
        checks.due("told(3)", checks.houseOf("p1 1;s0 1 1;p1 1;", 2).told(3), 0);
        checks.faulty("p1 1;s1 1 1;", 2, 6);
        checks.faulty("p1 1;p1 1;p1 1;p1 1;p1 1;s5 1 1;", 2, 26);
    }

    private static void gainTold() {
        checks.sentence("it warms by G an hour, 1 .. 20;");
        checks.due("told(5)", checks.houseOf("p1 1;s0 1 5;", 1).told(5), 1);
        checks.due("told(5)", checks.houseOf("p1 1;s0 20 5;", 1).told(5), 20);
        checks.faulty("p1 1;s0 0 5;", 2, 8);
        checks.faulty("p1 1;s0 21 5;", 2, 8);
    }

    private static void logsTold() {
        checks.sentence("there are N LOGS, 0 .. 999;");
        checks.due("told(4)", checks.houseOf("p1 1;s0 5 0;", 1).told(4), 0);
        checks.due("told(4)", checks.houseOf("p1 1;s0 5 999;", 1).told(4), 999);
        checks.faulty("p1 1;s0 5 1000;", 2, 10);
        checks.faulty("p1 1;s0 5 -1;", 1, 10);
    }

    private static void untoldStove() {
        checks.sentence("untold: PERSON 0, 5, 20;");
        StoveFavours x = checks.houseOf("p1 1;p1 1;s1 9 9;", 2);
        checks.told(x, 2, 0, 0, 1, 9, 9);
        checks.feedAll(x, "p1 1;p1 1;");
        checks.due("house()", x.house(), 2);
        checks.told(x, 2, 0, 0, 0, 20, 5);
    }

    private static void stoveOnce() {
        checks.sentence("once).");
        checks.houseOf("p1 1;s0 5 20;p1 1;", 2);
        checks.faulty("p1 1;s0 5 20;p1 1;s0 5 20;", 3, 18);
        // once in each text
        StoveFavours x = new StoveFavours();
        for (int people : new int[] {1, -13, 1, 1}) {
            checks.feedAll(x, people < 0 ? "p1 1;s0 5 20;s" : "p1 1;s0 5 20;");
            checks.due("house()", x.house(), people);
        }
    }

    private static void figures() {
        checks.sentence("NUMBERS have one to three figures;");
        StoveFavours x = checks.houseOf("p7 1;p07 01;p007 001;s000 020 099;d005 009 006;", 3);
        checks.warmth(x, 7, 7, 7);
        checks.told(x, 3, 0, 0, 0, 99, 20);
        checks.due("doing(5, 0)", x.doing(5, 0), 9);
        checks.faulty("p0007 1;", 2, 1);
        checks.faulty("p7 0001;", 2, 3);
        checks.faulty("p ;", 1, 2);
        checks.faulty("p7;", 1, 2);
    }

    private static void words() {
        checks.sentence("a word is one letter;");
        checks.faulty("pp1 1;", 1, 1);
        checks.faulty("p p1 1;", 1, 2);
        checks.faulty("dd0 0 0;", 1, 1);
        checks.faulty("p1 1;ss0 1 1;", 1, 6);
        checks.faulty("p1 1;s0 1 1;;", 1, 12);
        checks.faulty("p1 1;p", 1, 6);
    }

    private static void blanks() {
        checks.sentence("blanks (32) may stand anywhere but within NUMBERS;");
        StoveFavours x = checks.houseOf("  p  12  3  ;  d  4  5  6  ;  s  0  7  8  ;  ", 1);
        checks.warmth(x, 12);
        checks.told(x, 1, 0, 0, 0, 8, 7);
        checks.due("doing(4, 0)", x.doing(4, 0), 5);
        checks.due("doing(4, 1)", x.doing(4, 1), 6);
        checks.houseOf("p12 3;d4 5 6;s0 7 8;", 1);
        // within a number a blank makes two of it
        checks.faulty("p1 2 3;", 1, 5);
        checks.faulty("p1 23;", 2, 3);
        checks.faulty("d4 5 6 ;s", 1, 9);
    }

    private static void noOtherBlanks() {
        checks.sentence("blanks (32)");
        for (int letter : new int[] {0, 9, 10, 13, 31, 33, 95, 160, 255}) {
            checks.faulty("p5" + (char) letter + "5;", 1, 2);
            checks.faulty((char) letter + "p5 5;", 1, 0);
            checks.faulty("p5 5;" + (char) letter, 1, 5);
        }
    }

    private static void sideBySide() {
        checks.sentence("two NUMBERS side by side need one.");
        checks.houseOf("p55 5;", 1);
        checks.houseOf("p5 5;", 1);
        checks.faulty("p55;", 1, 3);
        checks.faulty("p99 ;", 1, 4);
        checks.faulty("d055;", 2, 1);
        checks.faulty("d0 55;", 2, 3);
        checks.faulty("d0 5;", 1, 4);
    }

    private static void firstFault() {
        checks.sentence("FAULTS, at the first letter that has one");
        checks.faulty("p100 10;", 2, 1);
        checks.faulty("p100 x", 2, 1);
        checks.faulty("x p100 0;", 1, 0);
        checks.faulty("p1 10 x", 2, 3);
        checks.faulty("d0 0 0;d0 99 0;", 4, 8);
        checks.faulty("d0 99 0;d0 0 0;", 2, 3);
        checks.faulty("d0 0 0;d0", 4, 8);
        checks.faulty("p1 1;s0 5 5;s9 0 0;", 3, 12);
        checks.faulty("p1 1;s9 5 5;s0 5 5;", 2, 6);
        checks.faulty("p1 1;p1 1;p1 1;p1 1;p1 1;px", 3, 25);
        checks.faulty("p1 1;p1 1;p1 1;p1 1;p100 1;p1 1;", 2, 21);
    }

    private static void faultAtTheEnd() {
        checks.sentence("(the end at the text's length)");
        String text = "p12 3;d4 5 6;s0 7 8;";
        for (int length = 1; length < text.length(); length++) {
            String part = text.substring(0, length);
            if (part.endsWith(";")) {
                checks.houseOf(part, 1);
            } else {
                checks.faulty(part, 1, length);
                checks.faulty(part + "  ", 1, length + 2);
            }
        }
    }

    /** Where a text ends, a longer one ahead of it had letters that would go on: none of them counts. */
    private static void faultAtTheEndBehindLonger() {
        checks.sentence("(the end at the text's length)");
        String text = "p12 3;d4 5 6;s0 7 8;";
        for (String filler : new String[] {" ", "1", ";", "p"}) {
            for (int length = 1; length < text.length(); length++) {
                String part = text.substring(0, length);
                StoveFavours x = new StoveFavours();
                checks.feedAll(x, filler.repeat(200));
                x.house();
                checks.feedAll(x, part);
                checks.due("house() of \"" + part + "\"", x.house(), part.endsWith(";") ? 1 : -11);
                checks.due("fault() of \"" + part + "\"", x.fault(), part.endsWith(";") ? NONE : length);
            }
            StoveFavours x = new StoveFavours();
            checks.feedAll(x, filler.repeat(200));
            x.house();
            checks.due("house() of nothing", x.house(), 0);
        }
    }

    private static void leastFault() {
        checks.sentence("of these the least: 1 it cannot stand there");
        // where no number can stand one of four figures is 1, not 2
        checks.faulty("1000", 1, 0);
        checks.faulty("p1 1;1000", 1, 5);
        checks.faulty("p1 1 1000;", 1, 5);
        // a doing told again in four figures is 2, not 4
        checks.faulty("d0 0 0;d0000 0 0;", 2, 8);
        checks.faulty("d1 0 0;d0001 0 0;", 2, 8);
    }

    /** Each of the 256 letters, where a clause, a number, or the clause's end may stand. */
    private static void letterThatCannotStand() {
        checks.sentence("1 it cannot stand there (a letter that is no word).");
        for (int k = 0; k < 256; k++) {
            char letter = (char) k;
            boolean figure = letter >= '0' && letter <= '9';
            boolean word = letter == 'p' || letter == 'd' || letter == 's';
            boolean blank = letter == ' ';
            if (!blank) {
                checks.faulty("" + letter, 1, word ? 1 : 0);
                checks.faulty("p5 5;" + letter, 1, word ? 6 : 5);
            }
            checks.faulty("p" + letter, 1, figure || blank ? 2 : 1);
            checks.faulty("p5 " + letter, 1, figure || blank ? 4 : 3);
            checks.faulty("d0 0 " + letter, letter >= '7' && figure ? 2 : 1, letter < '7' && figure || blank ? 6 : 5);
            if (letter != ';') {
                checks.faulty("p5 5 " + letter, 1, blank ? 6 : 5);
            }
        }
    }

    private static void numberOutOfBounds() {
        checks.sentence("2 a NUMBER of four figures or more, or out of its bounds; a PERSON that was not told yet (at its first).");
        checks.faulty("p0000 1;", 2, 1);
        checks.faulty("p   0099 1;", 2, 4);
        checks.faulty("p1234 1;", 2, 1);
        checks.faulty("p" + "9".repeat(199), 2, 1);
        checks.faulty("p" + "0".repeat(199), 2, 1);
        checks.faulty("p4294967297 1;", 2, 1);
        checks.faulty("p999 1;", 2, 1);
        checks.faulty("d 999 0 0;", 2, 2);
        checks.faulty("d032 0 0;", 2, 1);
    }

    private static void personNotTold() {
        checks.sentence("a PERSON that was not told yet (at its first).");
        checks.faulty("s0 5 20;", 2, 1);
        checks.faulty("s   0 5 20;p1 1;", 2, 4);
        checks.faulty("p1 1;s 001 5 20;p1 1;", 2, 7);
        checks.faulty("s0", 2, 1);
    }

    private static void sixthPerson() {
        checks.sentence("3 a sixth 'p', 's' again (at it).");
        String five = "p1 1;p1 1;p1 1;p1 1;p1 1;";
        checks.houseOf(five, 5);
        checks.faulty(five + "p", 3, 25);
        checks.faulty(five + "  p1 1;", 3, 27);
        checks.faulty(five + "s0 5 20;p1 1;", 3, 33);
        checks.faulty(five + "s0 5 20;  s", 3, 35);
        checks.faulty("p1 1;s0 5 20;s", 3, 13);
    }

    private static void doingAgain() {
        checks.sentence("4 a DOING again (at the E).");
        checks.faulty("d0 1 1;d0 1 1;", 4, 8);
        checks.faulty("d5 1 1;d   005 1 1;", 4, 11);
        checks.faulty("d3 1 1;d4 1 1;d3", 4, 15);
    }

    private static void emptyText() {
        checks.sentence("An empty text (or of blanks alone): nobody.");
        for (int length : new int[] {0, 1, 2, 200}) {
            StoveFavours x = checks.houseOf("p1 1;", 1);
            checks.feedAll(x, " ".repeat(length));
            checks.due("house() of " + length + " blanks", x.house(), 0);
            checks.due("fault() of " + length + " blanks", x.fault(), NONE);
            checks.told(x, 0, 0, 0, NONE, 20, 5, 0, 0, 0, 0);
        }
    }

    private static void textIsGone() {
        checks.sentence("THE TEXT (it is empty then, with a FAULT, too) becomes THE HOUSE");
        StoveFavours x = checks.houseOf("p1 1;", 1);
        checks.due("told(1)", x.told(1), 0);
        checks.feedAll(x, "p2 2");
        checks.due("house()", x.house(), -11);
        checks.due("told(1) behind a fault", x.told(1), 0);
        checks.feedAll(x, "p3 3;");
        checks.due("house()", x.house(), 1);
        checks.warmth(x, 3);
        checks.due("house() of nothing", x.house(), 0);
    }

    private static void houseAnew() {
        checks.sentence("(hour 0; nothing NOTED, no BOOK; IMAGES, hours to be undone are gone; THE SEED stays)");
        StoveFavours x = RefusedTest.rich();
        checks.due("keep(0)", x.keep(0), 1);
        checks.due("keep(1)", x.keep(1), 1);
        checks.due("sit(2)", x.sit(2), 2);
        checks.feedAll(x, " 2;");
        checks.due("house()", x.house(), 1);
        checks.told(x, 1, 0, 0, 0, 20, 5, 0, 0, 0, 0);
        checks.since(x, NONE);
        checks.due("laws(0)", x.laws(0), 115);
        checks.due("forEver(-1)", x.forEver(NONE), NONE);
        checks.due("goBack(0)", x.goBack(0), NOT);
        checks.due("goBack(1)", x.goBack(1), NOT);
        checks.due("undo(1)", x.undo(1), NOT);
        checks.due("doing(2, 1), told LAW 2 and made LAW 6", x.doing(2, 1), 4);
    }

    private static void seedStays() {
        checks.sentence("THE SEED stays): how many PEOPLE;");
        StoveFavours x = new StoveFavours();
        checks.due("seed(2147483647)", x.seed(2147483647), 0);
        checks.due("house()", x.house(), 0);
        checks.due("seed(7)", x.seed(7), 2147483647);
        checks.feedAll(x, "q");
        checks.due("house()", x.house(), -11);
        checks.due("seed(0)", x.seed(0), 7);
    }

    private static void howManyPeople() {
        checks.sentence("how many PEOPLE;");
        StringBuilder text = new StringBuilder("d0 0 0;");
        for (int people = 0; people <= 5; people++) {
            checks.houseOf(text.toString(), people);
            text.append("p1 1;");
        }
    }

    private static void faultNumbers() {
        checks.sentence("-10 less the number of its FAULT");
        int[] due = {-11, -12, -13, -14};
        String[] texts = {"q", "p100 1;", "p1 1;s0 1 1;s0 1 1;", "d0 0 0;d0 0 0;"};
        for (int k = 0; k < 4; k++) {
            StoveFavours x = new StoveFavours();
            checks.feedAll(x, texts[k]);
            checks.due("house() of \"" + texts[k] + "\"", x.house(), due[k]);
        }
    }

    private static void faultKeepsAll() {
        checks.sentence("(all else is as it was).");
        for (String rest : new String[] {"", " 2 7;", " 2;q", " 2;p1 1;p1 1;p1 1;p1 1;p1 1;", " 2;d4 1 1;d4 1 1;", " 2;s0 9 9;s"}) {
            StoveFavours x = RefusedTest.rich();
            StoveFavours twin = RefusedTest.rich();
            checks.feedAll(x, rest);
            checks.due("house() of a text with a fault", x.house() < -10 ? 1 : 0, 1);
            checks.due("told(1)", x.told(1), 0);
            // the twin's text stands where the other one's is gone
            checks.feedAll(x, "p7 1;d0 3");
            checks.alike("a fault", Probe.allButFault(x, " 2;"), Probe.allButFault(twin, " 2;"));
        }
    }

    private static void faultPlace() {
        checks.sentence("The place (from 0 on) of the letter that has the FAULT of the latest house(); NONE.");
        StoveFavours x = new StoveFavours();
        checks.due("fault() ahead of all", x.fault(), NONE);
        checks.feedAll(x, "q");
        checks.due("fault() ahead of house()", x.fault(), NONE);
        checks.due("house()", x.house(), -11);
        checks.due("fault()", x.fault(), 0);
        checks.due("fault() again", x.fault(), 0);
        checks.feedAll(x, " ".repeat(199) + "d");
        checks.due("fault() ahead of the next house()", x.fault(), 0);
        checks.due("house()", x.house(), -11);
        checks.due("fault() at the end of a full text", x.fault(), 200);
        checks.due("house()", x.house(), 0);
        checks.due("fault() behind a good text", x.fault(), NONE);
    }

    private static void toldAll() {
        checks.sentence("0 PEOPLE, 1 letters of THE TEXT, 2 the hour, 3 THE DARLING (NONE without PEOPLE), 4 LOGS, 5 G,");
        StoveFavours x = checks.houseOf("p9 1;p0 1;s1 20 999;", 2);
        checks.told(x, 2, 0, 0, 1, 999, 20, 2, 0, 0, 0);
        checks.due("sit(99)", x.sit(99), 1);
        checks.due("note(0, 0, 0, 0)", x.note(0, 0, 0, 0), 1);
        checks.due("write(0, 0)", x.write(0, 0), 1);
        checks.due("write(0, 0)", x.write(0, 0), 2);
        checks.feedAll(x, "abc");
        checks.told(x, 2, 3, 99, 1, 999, 20, 1, 1, 2, 30);
        checks.due("told(-1)", x.told(-1), OUTSIDE);
        checks.due("told(10)", x.told(10), OUTSIDE);
    }

    private static void darlingOfNobody() {
        checks.sentence("3 THE DARLING (NONE without PEOPLE)");
        checks.due("new told(3)", new StoveFavours().told(3), NONE);
        checks.due("doings alone told(3)", checks.houseOf("d0 0 0;", 0).told(3), NONE);
        StoveFavours x = checks.houseOf("p1 1;", 1);
        checks.due("told(3)", x.told(3), 0);
        checks.due("house()", x.house(), 0);
        checks.due("told(3) of an empty text", x.told(3), NONE);
    }

    private static void frozenSet() {
        checks.sentence("6 who is FROZEN (a SET)");
        checks.due("all told(6)", checks.houseOf("p0 1;p0 1;p0 1;p0 1;p0 1;", 5).told(6), 31);
        checks.due("none told(6)", checks.houseOf("p1 1;p1 1;p1 1;p1 1;p1 1;", 5).told(6), 0);
        checks.due("0 and 4 told(6)", checks.houseOf("p0 1;p1 1;p1 1;p1 1;p0 1;", 5).told(6), 17);
        checks.due("nobody told(6)", new StoveFavours().told(6), 0);
    }

    private static void personAll() {
        checks.sentence("Of a PERSON: what = 0 WARMTH, 1 COLDER by, 2 SINCE (NONE).");
        StoveFavours x = checks.houseOf("p10 1;p20 2;p30 3;p40 4;p50 5;s4 9 9;", 5);
        for (int p = 0; p < 5; p++) {
            checks.due("person(" + p + ", 0)", x.person(p, 0), 10 * p + 10);
            checks.due("person(" + p + ", 1)", x.person(p, 1), p + 1);
            checks.due("person(" + p + ", 2)", x.person(p, 2), NONE);
        }
        checks.due("person(5, 0)", x.person(5, 0), UNKNOWN);
        checks.due("person(4, 3)", x.person(4, 3), OUTSIDE);
        checks.due("person(-1, 2)", x.person(-1, 2), UNKNOWN);
        checks.due("person(0, -1)", x.person(0, -1), OUTSIDE);
    }

    private static void doingAll() {
        checks.sentence("Of a DOING (0 .. 5): what = 0 LOGS, 1 LAW.");
        StoveFavours x = checks.houseOf("d0 9 6;d5 0 5;", 0);
        checks.due("doing(0, 0)", x.doing(0, 0), 9);
        checks.due("doing(0, 1)", x.doing(0, 1), 6);
        checks.due("doing(5, 0)", x.doing(5, 0), 0);
        checks.due("doing(5, 1)", x.doing(5, 1), 5);
        checks.due("doing(-1, 0)", x.doing(-1, 0), UNKNOWN);
        checks.due("doing(6, 0)", x.doing(6, 0), UNKNOWN);
        checks.due("doing(0, -1)", x.doing(0, -1), OUTSIDE);
        checks.due("doing(0, 2)", x.doing(0, 2), OUTSIDE);
    }
}
