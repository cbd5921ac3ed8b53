/** Promises 1 to 7: a new object, the text, its faults, and what the house tells. */
public final class HouseTest {
    private static final int UNKNOWN = StoveFavours.UNKNOWN, OUTSIDE = StoveFavours.OUTSIDE, FULL = StoveFavours.FULL;
    private static final Checks checks = new Checks("HouseTest");

    public static void main(String[] args) {
        newObject();
        letters();
        goodTexts();
        faults();
        faultKeepsAllElse();
        houseStartsAnew();
        refusals();
        checks.finish();
    }

    /** Promise 1. */
    private static void newObject() {
        nobodyAtHome(new StoveFavours(), "new");
        nobodyAtHome(checks.houseOf("", 0), "empty");
        nobodyAtHome(checks.houseOf("   ", 0), "blanks");
        checks.due("fault() of a new object", new StoveFavours().fault(), -1);
    }

    private static void nobodyAtHome(StoveFavours x, String name) {
        int[] due = {0, 0, 0, -1, 20, 5, 0, 0, 0, 0};
        for (int what = 0; what < 10; what++) {
            checks.due(name + " told(" + what + ")", x.told(what), due[what]);
        }
        for (int e = 0; e < 6; e++) {
            checks.due(name + " doing(" + e + ", 0)", x.doing(e, 0), 1);
            checks.due(name + " doing(" + e + ", 1)", x.doing(e, 1), 4);
        }
        checks.due(name + " person(0, 0)", x.person(0, 0), UNKNOWN);
        checks.due(name + " seed(0)", x.seed(0), 0);
    }

    /** Promise 2. */
    private static void letters() {
        StoveFavours x = new StoveFavours();
        checks.due("feed(-1)", x.feed(-1), OUTSIDE);
        checks.due("feed(256)", x.feed(256), OUTSIDE);
        checks.due("feed(0)", x.feed(0), 1);
        checks.due("feed(255)", x.feed(255), 2);
        for (int k = 2; k < 200; k++) {
            checks.due("feed(32)", x.feed(32), k + 1);
        }
        checks.due("feed(32), the 201st", x.feed(32), FULL);
        checks.due("feed(256), the 201st", x.feed(256), OUTSIDE);
        checks.due("told(1)", x.told(1), 200);
        checks.due("house()", x.house(), -11);
        checks.due("fault()", x.fault(), 0);
        checks.due("feed(32) behind house()", x.feed(32), 1);
        fullText();
    }

    private static void fullText() {
        StringBuilder text = new StringBuilder("p1 2;");
        while (text.length() < 195) {
            text.append(' ');
        }
        StoveFavours x = checks.houseOf(text + "p9 9;", 2);
        checks.due("person(1, 0)", x.person(1, 0), 9);
        checks.faulty(text + "p9 90", 2, 198);
        checks.faulty(text + "p9 9 ", 1, 200);
    }

    /** Promise 3, and what becomes of it by promises 5 to 7. */
    private static void goodTexts() {
        StoveFavours x = checks.houseOf("p099 009;p0 0;d5 9 6;s1 020 999;", 2);
        checks.due("told(0)", x.told(0), 2);
        checks.due("told(3)", x.told(3), 1);
        checks.due("told(4)", x.told(4), 999);
        checks.due("told(5)", x.told(5), 20);
        checks.due("told(6)", x.told(6), 2);
        checks.due("person(0, 0)", x.person(0, 0), 99);
        checks.due("person(0, 1)", x.person(0, 1), 9);
        checks.due("person(0, 2)", x.person(0, 2), -1);
        checks.due("person(1, 0)", x.person(1, 0), 0);
        checks.due("person(1, 2)", x.person(1, 2), -1);
        checks.due("doing(5, 0)", x.doing(5, 0), 9);
        checks.due("doing(5, 1)", x.doing(5, 1), 6);
        checks.due("doing(0, 0)", x.doing(0, 0), 1);
        checks.due("doing(0, 1)", x.doing(0, 1), 4);
        StoveFavours blanks = checks.houseOf("  p 7   3 ; p8 1;p  9 2 ;s 2 1 0 ; d 0 0 0;p1 1;p2 2;  ", 5);
        checks.due("told(3)", blanks.told(3), 2);
        checks.due("told(4)", blanks.told(4), 0);
        checks.due("told(5)", blanks.told(5), 1);
        checks.due("doing(0, 0)", blanks.doing(0, 0), 0);
        StoveFavours untold = checks.houseOf("p5 1;p6 1;", 2);
        checks.due("told(3) untold", untold.told(3), 0);
        checks.due("told(4) untold", untold.told(4), 20);
        checks.due("told(5) untold", untold.told(5), 5);
        StoveFavours noPeople = checks.houseOf("d0 2 3;d1 0 0;d2 0 0;d3 0 0;d4 0 0;d5 0 0;", 0);
        checks.due("doing(0, 1) of nobody", noPeople.doing(0, 1), 3);
    }

    /** Promises 3 and 4: each fault at its letter. */
    private static void faults() {
        checks.faulty("q", 1, 0);
        checks.faulty("P1 1;", 1, 0);
        checks.faulty("5", 1, 0);
        checks.faulty(";", 1, 0);
        checks.faulty("p1 1;;", 1, 5);
        checks.faulty("p", 1, 1);
        checks.faulty("p  ", 1, 3);
        checks.faulty("p5", 1, 2);
        checks.faulty("p55;", 1, 3);
        checks.faulty("p5 5", 1, 4);
        checks.faulty("p5 5 ", 1, 5);
        checks.faulty("p5 5 5;", 1, 5);
        checks.faulty("p5 5 1000;", 1, 5);
        checks.faulty("p5,5;", 1, 2);
        checks.faulty("p-5 5;", 1, 1);
        checks.faulty("p5 5" + (char) 9 + ";", 1, 4);
        checks.faulty("p5 5;d 0 1 x;", 1, 11);
        checks.faulty("p5 5;s0 5 20p", 1, 12);
        checks.faulty("p100 0;", 2, 1);
        checks.faulty("p0001 0;", 2, 1);
        checks.faulty("p 1234567890123 x", 2, 2);
        checks.faulty("p100", 2, 1);
        checks.faulty("p 5 10;", 2, 4);
        checks.faulty("d6 0 0;", 2, 1);
        checks.faulty("d0 10 0;", 2, 3);
        checks.faulty("d0 0 7;", 2, 5);
        checks.faulty("s0 5 20;", 2, 1);
        checks.faulty("p1 1;s1 5 20;p1 1;", 2, 6);
        checks.faulty("p1 1;s0 0 20;", 2, 8);
        checks.faulty("p1 1;s0 21 20;", 2, 8);
        checks.faulty("p1 1;s0 5 1000;", 2, 10);
        checks.faulty("p1 1;p1 1;p1 1;p1 1;p1 1; p", 3, 26);
        checks.faulty("p1 1;s0 5 20;s0 5 20;", 3, 13);
        checks.faulty("p1 1;s0 5 20;sx", 3, 13);
        checks.faulty("d3 1 1;d 3 1 1;", 4, 9);
        checks.faulty("d3 1 1;d003", 4, 8);
        checks.faulty("d3 1 1;d0003", 2, 8);
        checks.faulty("d3 1 1;d3 99 9", 4, 8);
        checks.faulty("p100 0;q", 2, 1);
    }

    /** Promise 3: with a fault only the text is gone. */
    private static void faultKeepsAllElse() {
        StoveFavours x = checks.houseOf("p50 1;p40 1;d0 1 0;", 2);
        checks.due("act(0, 1)", x.act(0, 1), 1);
        checks.due("note(0, 0, 0, 0)", x.note(0, 0, 0, 0), 1);
        checks.due("write(0, 0)", x.write(0, 0), 1);
        checks.feedAll(x, "p1 1;d1 0 6;d1 0 6;");
        checks.due("house()", x.house(), -14);
        checks.due("fault()", x.fault(), 13);
        int[] due = {2, 0, 1, 1, 19, 5, 0, 1, 1, 1};
        for (int what = 0; what < 10; what++) {
            checks.due("behind a fault told(" + what + ")", x.told(what), due[what]);
        }
        checks.due("doing(1, 1)", x.doing(1, 1), 4);
        checks.due("person(0, 0)", x.person(0, 0), 49);
        checks.due("keep(1)", x.keep(1), 1);
        checks.feedAll(x, "x");
        checks.due("house()", x.house(), -11);
        checks.due("goBack(1)", x.goBack(1), 1);
        checks.feedAll(x, " p1 1;");
        checks.due("house()", x.house(), 1);
        checks.due("fault() behind a good text", x.fault(), -1);
    }

    /** Promise 3: without a fault all begins again, but the seed. */
    private static void houseStartsAnew() {
        StoveFavours x = checks.houseOf("p50 1;p40 1;d0 1 0;s1 6 30;", 2);
        checks.due("act(0, 0)", x.act(0, 0), 0);
        checks.due("law(2, 3)", x.law(2, 3), 4);
        checks.due("stack(5)", x.stack(5), 34);
        checks.due("seed(77)", x.seed(77), 0);
        checks.due("keep(0)", x.keep(0), 1);
        checks.due("sit(2)", x.sit(2), 0);
        checks.due("note(0, 0, 0, 0)", x.note(0, 0, 0, 0), 1);
        checks.due("write(0, 0)", x.write(0, 0), 1);
        checks.feedAll(x, "p9 9;");
        checks.due("house()", x.house(), 1);
        int[] due = {1, 0, 0, 0, 20, 5, 0, 0, 0, 0};
        for (int what = 0; what < 10; what++) {
            checks.due("anew told(" + what + ")", x.told(what), due[what]);
        }
        checks.due("doing(0, 1)", x.doing(0, 1), 4);
        checks.due("doing(2, 1)", x.doing(2, 1), 4);
        checks.due("person(0, 0)", x.person(0, 0), 9);
        checks.due("person(0, 2)", x.person(0, 2), -1);
        checks.due("person(1, 0)", x.person(1, 0), UNKNOWN);
        checks.due("goBack(0)", x.goBack(0), StoveFavours.NOT);
        checks.due("undo(1)", x.undo(1), StoveFavours.NOT);
        checks.due("seed(0)", x.seed(0), 77);
    }

    /** Promises 5 to 7: what is refused, and in which order. */
    private static void refusals() {
        StoveFavours x = checks.houseOf("p50 1;", 1);
        checks.due("told(-1)", x.told(-1), OUTSIDE);
        checks.due("told(10)", x.told(10), OUTSIDE);
        checks.due("person(-1, 0)", x.person(-1, 0), UNKNOWN);
        checks.due("person(1, 9)", x.person(1, 9), UNKNOWN);
        checks.due("person(0, 3)", x.person(0, 3), OUTSIDE);
        checks.due("person(0, -1)", x.person(0, -1), OUTSIDE);
        checks.due("doing(6, 7)", x.doing(6, 7), UNKNOWN);
        checks.due("doing(-1, 0)", x.doing(-1, 0), UNKNOWN);
        checks.due("doing(5, 2)", x.doing(5, 2), OUTSIDE);
        checks.due("doing(5, -1)", x.doing(5, -1), OUTSIDE);
    }
}
