/** What all tests share: counting answers that are not due, and feeding texts. */
final class Checks {
    private final String name;
    private int made = 0;
    private int wrong = 0;

    Checks(String name) {
        this.name = name;
    }

    void due(String call, long got, long want) {
        made++;
        if (got != want) {
            wrong++;
            System.out.println(name + ": " + call + " answered " + got + ", due is " + want);
        }
    }

    /** Ends the test's run: with exit code 1 if an answer was not the one that is due. */
    void finish() {
        System.out.println(name + ": " + made + " answers, " + wrong + " wrong");
        if (wrong != 0 || made == 0) {
            System.exit(1);
        }
    }

    /** Feeds a text letter by letter; the answers must count up from what was there. */
    void feedAll(StoveFavours x, String text) {
        int before = x.told(1);
        for (int k = 0; k < text.length(); k++) {
            due("feed('" + text.charAt(k) + "')", x.feed(text.charAt(k)), before + k + 1);
        }
    }

    /** A new object of which the text became the house. */
    StoveFavours houseOf(String text, int people) {
        StoveFavours x = new StoveFavours();
        feedAll(x, text);
        due("house() of \"" + text + "\"", x.house(), people);
        due("fault() of \"" + text + "\"", x.fault(), StoveFavours.NONE);
        return x;
    }

    /** A text with a fault on an object of its own: its number and place. */
    void faulty(String text, int number, int place) {
        StoveFavours x = new StoveFavours();
        feedAll(x, text);
        due("house() of \"" + text + "\"", x.house(), -10 - number);
        due("fault() of \"" + text + "\"", x.fault(), place);
        due("told(1) behind \"" + text + "\"", x.told(1), 0);
    }

    /** The same call in many hours, each with its answer. */
    void acts(StoveFavours x, int[][] rows) {
        for (int[] row : rows) {
            due("act(" + row[0] + ", " + row[1] + ")", x.act(row[0], row[1]), row[2]);
        }
    }
}
