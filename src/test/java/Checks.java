import java.io.IOException;
import java.nio.file.Files;
import java.nio.file.Path;
import java.util.List;

/** What all tests share: counting answers that are not due, and feeding texts. */
final class Checks {
    private static final Path DOCUMENT = Path.of("../shared/DOC.md");

    private final String name;
    private String document = null;
    private String sentence = "";
    private int sentences = 0;
    private int made = 0;
    private int wrong = 0;

    Checks(String name) {
        this.name = name;
    }

    /** The words of the document by which the answers from here on are due: they must stand in it as they are. */
    void sentence(String words) {
        sentence = words;
        sentences++;
        if (document == null) {
            document = readDocument();
        }
        due("the document has these words", document.isEmpty() || document.contains(words) ? 1 : 0, 1);
    }

    /** The document with single blanks; empty where it can't be read: the answers are due all the same. */
    private static String readDocument() {
        try {
            return Files.isReadable(DOCUMENT) ? Files.readString(DOCUMENT).replaceAll("\\s+", " ") : "";
        } catch (IOException e) {
            return "";
        }
    }

    void due(String call, long got, long want) {
        made++;
        if (got != want) {
            wrong++;
            String by = sentence.isEmpty() ? "" : ", by \"" + sentence + "\"";
            System.out.println(name + ": " + call + " answered " + got + ", due is " + want + by);
        }
    }

    /** Two lists of answers that are due to be alike: all of them, or the first that is not. */
    void alike(String call, List<String> got, List<String> want) {
        int same = 0;
        while (same < got.size() && same < want.size() && got.get(same).equals(want.get(same))) {
            same++;
        }
        boolean all = same == got.size() && same == want.size();
        String shown = all ? "" : ": " + (same < got.size() ? got.get(same) : "no more") + " where the twin has "
            + (same < want.size() ? want.get(same) : "no more");
        due("what is alike behind " + call + shown, all ? 1 : 0, 1);
    }

    /** Ends the test's run: with exit code 1 if an answer was not the one that is due. */
    void finish() {
        String by = sentences == 0 ? "" : " by " + sentences + " sentences";
        System.out.println(name + ": " + made + " answers" + by + ", " + wrong + " wrong");
        if (wrong != 0 || made == 0) {
            System.exit(1);
        }
    }

    /** Feeds a text letter by letter; the answers must count up from what was there. */
    void feedAll(StoveFavours x, String text) {
        int before = x.told(1);
        for (int k = 0; k < text.length(); k++) {
            due("feed('" + text.charAt(k) + "')", x.feed(text.charAt(k)), before + k + 1);
        }
    }

    /** A new object of which the text became the house. */
    StoveFavours houseOf(String text, int people) {
        StoveFavours x = new StoveFavours();
        feedAll(x, text);
        due("house() of \"" + text + "\"", x.house(), people);
        due("fault() of \"" + text + "\"", x.fault(), StoveFavours.NONE);
        return x;
    }

    /** A text with a fault on an object of its own: its number and place. */
    void faulty(String text, int number, int place) {
        StoveFavours x = new StoveFavours();
        feedAll(x, text);
        due("house() of \"" + text + "\"", x.house(), -10 - number);
        due("fault() of \"" + text + "\"", x.fault(), place);
        due("told(1) behind \"" + text + "\"", x.told(1), 0);
    }

    /** The same call in many hours, each with its answer. */
    void acts(StoveFavours x, int[][] rows) {
        for (int[] row : rows) {
            due("act(" + row[0] + ", " + row[1] + ")", x.act(row[0], row[1]), row[2]);
        }
    }

    /** What was told of by told(), a number each, from 0 on. */
    void told(StoveFavours x, int... due) {
        for (int what = 0; what < due.length; what++) {
            due("told(" + what + ")", x.told(what), due[what]);
        }
    }

    /** WARMTH of all, from 0 on. */
    void warmth(StoveFavours x, int... due) {
        for (int p = 0; p < due.length; p++) {
            due("hour " + x.told(2) + " person(" + p + ", 0)", x.person(p, 0), due[p]);
        }
    }

    /** SINCE of all, from 0 on. */
    void since(StoveFavours x, int... due) {
        for (int p = 0; p < due.length; p++) {
            due("hour " + x.told(2) + " person(" + p + ", 2)", x.person(p, 2), due[p]);
        }
    }
}
