import java.util.ArrayList;
import java.util.List;

/**
 * All that can be seen of an object: answers to calls that may change it, so it is asked last. Two objects
 * that lived alike answer alike; some 300 calls.
 */
final class Probe {
    private static final int LONGEST_PAST = 30;

    private final StoveFavours x;
    private final List<String> answers = new ArrayList<>();

    private Probe(StoveFavours x) {
        this.x = x;
    }

    /** @param rest letters that make what is in THE TEXT whole */
    static List<String> all(StoveFavours x, String rest) {
        Probe probe = new Probe(x);
        probe.put("fault()", x.fault());
        return probe.allBut(rest);
    }

    /** The same without fault(), for an object that had another text ahead. */
    static List<String> allButFault(StoveFavours x, String rest) {
        return new Probe(x).allBut(rest);
    }

    private List<String> allBut(String rest) {
        for (int what = 0; what < 10; what++) {
            put("told(" + what + ")", x.told(what));
        }
        for (int k = 0; k < 15; k++) {
            put("person(" + k / 3 + ", " + k % 3 + ")", x.person(k / 3, k % 3));
        }
        for (int e = 0; e < 6; e++) {
            put("doing(" + e + ", 0)", x.doing(e, 0));
            put("doing(" + e + ", 1)", x.doing(e, 1));
            put("laws(" + e + ")", x.laws(e));
            put("tryNext(" + e + ")", x.tryNext(e));
        }
        book();
        seed();
        past();
        image(0);
        image(1);
        text(rest);
        return answers;
    }

    private void put(String call, int answer) {
        answers.add(call + " = " + answer);
    }

    private void book() {
        put("judge(0)", x.judge(0));
        put("judge(1)", x.judge(1));
        for (int p = -1; p < 5; p++) {
            put("forEver(" + p + ")", x.forEver(p));
        }
    }

    private void seed() {
        int was = x.seed(0);
        put("seed(0)", was);
        x.seed(was);
    }

    private void past() {
        for (int n = 1; n <= LONGEST_PAST; n++) {
            String back = n + " back ";
            put(back + "undo(1)", x.undo(1));
            put(back + "told(3)", x.told(3));
            put(back + "told(4)", x.told(4));
            put(back + "told(6)", x.told(6));
            put(back + "person(0, 0)", x.person(0, 0));
            put(back + "doing(2, 1)", x.doing(2, 1));
            if (x.told(9) == 0) {
                break;
            }
        }
    }

    private void image(int i) {
        String of = "image " + i + " ";
        put(of + "goBack()", x.goBack(i));
        for (int what = 2; what < 10; what++) {
            put(of + "told(" + what + ")", x.told(what));
        }
        for (int p = 0; p < 5; p++) {
            put(of + "person(" + p + ", 0)", x.person(p, 0));
            put(of + "person(" + p + ", 2)", x.person(p, 2));
        }
        for (int e = 0; e < 6; e++) {
            put(of + "doing(" + e + ", 1)", x.doing(e, 1));
        }
        seed();
    }

    private void text(String rest) {
        for (int k = 0; k < rest.length(); k++) {
            put("feed()", x.feed(rest.charAt(k)));
        }
        put("house()", x.house());
        put("fault() of the text", x.fault());
        for (int p = 0; p < 5; p++) {
            put("told in the text: person(" + p + ", 0)", x.person(p, 0));
        }
        put("told in the text: doing(0, 0)", x.doing(0, 0));
        put("told in the text: seed(0)", x.seed(0));
    }
}
