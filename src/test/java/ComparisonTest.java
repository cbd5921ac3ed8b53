import java.util.Random;

/** Long mixed runs, each call asked of StoveFavours and of PlainStove; a fixed seed, so always the same. */
public final class ComparisonTest {
    private static final Checks checks = new Checks("ComparisonTest");
    private static final Random random = new Random(20261118);
    private static final int[] WILD = {-1, -2, 6, 7, 99, 100, 1000, Integer.MAX_VALUE, Integer.MIN_VALUE, -1000000001};

    private static StoveFavours x;
    private static PlainStove y;
    private static String latest = "";

    public static void main(String[] args) {
        int runs = args.length > 0 ? Integer.parseInt(args[0]) : 400;
        for (int run = 0; run < runs; run++) {
            x = new StoveFavours();
            y = new PlainStove();
            latest = "run " + run + " ";
            int calls = 0;
            while (calls < 512) {
                boolean dear = run % 8 == 0;
                calls += random.nextInt(70) == 0 || calls == 0 ? house(run) : one(dear);
            }
        }
        checks.finish();
    }

    private static void due(String call, int got, int want) {
        checks.due(latest + call, got, want);
    }

    private static int house(int run) {
        String text = run % 3 == 2 ? faultyText() : goodText();
        for (int k = 0; k < text.length(); k++) {
            due("feed", x.feed(text.charAt(k)), y.feed(text.charAt(k)));
        }
        latest = latest.substring(0, Math.min(latest.length(), 9)) + " \"" + text + "\" ";
        due("told(1)", x.told(1), y.told(1));
        due("house", x.house(), y.house());
        due("fault", x.fault(), y.fault());
        return text.length() + 3;
    }

    private static int below(int n) {
        return random.nextInt(n);
    }

    private static String goodText() {
        StringBuilder text = new StringBuilder();
        int people = 1 + below(5);
        boolean warm = below(2) == 0;
        for (int p = 0; p < people; p++) {
            text.append("p").append(warm ? 30 + below(70) : below(12)).append(' ').append(below(10)).append(';');
        }
        for (int e = 0; e < 6; e++) {
            if (below(5) > 0) {
                text.append("d").append(e).append(' ').append(below(3) == 0 ? below(10) : below(3)).append(' ').append(below(7)).append(';');
            }
        }
        if (below(4) > 0) {
            text.append("s").append(below(people)).append(' ').append(1 + below(20)).append(' ').append(below(2) == 0 ? below(6) : below(1000)).append(';');
        }
        return text.toString();
    }

    private static String faultyText() {
        StringBuilder text = new StringBuilder(goodText());
        for (int k = below(3); k >= 0; k--) {
            int place = below(text.length());
            String signs = "pds; 0123456789;;  x";
            char sign = signs.charAt(below(signs.length()));
            switch (below(3)) {
                case 0: text.setCharAt(place, sign); break;
                case 1: text.insert(place, sign); break;
                default: text.deleteCharAt(place);
            }
        }
        return text.toString();
    }

    /** A number below n most of the time, else a wild one. */
    private static int some(int n) {
        return below(25) == 0 ? WILD[below(WILD.length)] : below(n);
    }

    private static int someone() {
        return some(Math.max(1, y.told(0)));
    }

    private static int place() {
        return some(5) - 1;
    }

    private static int one(boolean dear) {
        int kind = below(100);
        if (kind < 30) {
            hours(kind);
        } else if (kind < 55) {
            tried(kind, dear);
        } else if (kind < 75) {
            seen(kind);
        } else if (kind < 82) {
            images(kind);
        } else {
            told();
        }
        return 1;
    }

    private static void hours(int kind) {
        int e = some(6);
        int p = someone();
        int n = below(4) == 0 ? some(101) : some(4);
        if (kind < 16) due("act(" + e + ", " + p + ")", x.act(e, p), y.act(e, p));
        else if (kind < 19) due("sit(" + n + ")", x.sit(n), y.sit(n));
        else if (kind < 22) due("drift(" + n + ")", x.drift(n), y.drift(n));
        else if (kind < 24) due("stack(" + n + ")", x.stack(n), y.stack(n));
        else if (kind < 27) due("law(" + e + ", " + n + ")", x.law(e, n), y.law(e, n));
        else due("undo(" + n + ")", x.undo(n), y.undo(n));
    }

    private static void tried(int kind, boolean dear) {
        int p = someone();
        int q = someone();
        int n = dear ? some(4) : Math.min(2, some(4));
        int i = place();
        int what = some(2);
        int turns = dear ? some(5) : Math.min(3, some(4));
        if (kind < 34) due("favour(" + p + ", " + n + ", " + i + ")", x.favour(p, n, i), y.favour(p, n, i));
        else if (kind < 37) due("allWarm(" + n + ", " + i + ")", x.allWarm(n, i), y.allWarm(n, i));
        else if (kind < 41) due("duel(" + p + ", " + q + ", " + turns + ", " + what + ")", x.duel(p, q, turns, what), y.duel(p, q, turns, what));
        else if (kind < 43) due("freezes(" + what + ")", x.freezes(what), y.freezes(what));
        else if (kind < 46) due("forEver(" + (p - 1) + ")", x.forEver(p - 1), y.forEver(p - 1));
        else if (kind < 48) due("fair()", x.fair(), y.fair());
        else if (kind < 51) due("left(" + p + ", " + i + ")", x.left(p, i), y.left(p, i));
        else if (kind < 53) due("doers(" + p + ")", x.doers(p), y.doers(p));
        else due("chair(" + p + ")", x.chair(p), y.chair(p));
    }

    /** Whom some law makes the darling mostly, so that laws are left that fit what is noted. */
    private static int likely(int p, int a) {
        int people = Math.max(1, y.told(0));
        switch (below(8)) {
            case 0: return someone();
            case 1: return p;
            case 2: return a;
            case 3: return Math.floorMod(p + 1, people);
            case 4: return Math.floorMod(a - 1, people);
            default: return Math.floorMod(a + 1, people);
        }
    }

    private static void seen(int kind) {
        int e = some(6);
        int p = someone();
        int a = someone();
        int b = likely(p, a);
        int what = some(2);
        if (kind < 60) due("note(" + e + ", " + p + ", " + a + ", " + b + ")", x.note(e, p, a, b), y.note(e, p, a, b));
        else if (kind < 63) due("laws(" + e + ")", x.laws(e), y.laws(e));
        else if (kind < 66) due("tryNext(" + e + ")", x.tryNext(e), y.tryNext(e));
        else if (kind < 72) due("write(" + e + ", " + p + ")", x.write(e, p), y.write(e, p));
        else if (kind < 74 || below(6) > 0) due("judge(" + what + ")", x.judge(what), y.judge(what));
        else due("tear()", x.tear(), y.tear());
    }

    private static void images(int kind) {
        int i = some(2);
        int v = below(3) == 0 ? random.nextInt() : some(1000);
        if (kind < 78) due("goBack(" + i + ")", x.goBack(i), y.goBack(i));
        else if (kind < 80) due("keep(" + i + ")", x.keep(i), y.keep(i));
        else due("seed(" + v + ")", x.seed(v), y.seed(v));
    }

    private static void told() {
        int what = some(10);
        int p = someone();
        int e = some(6);
        int third = some(3);
        due("told(" + what + ")", x.told(what), y.told(what));
        due("person(" + p + ", " + third + ")", x.person(p, third), y.person(p, third));
        due("doing(" + e + ", " + third + ")", x.doing(e, third), y.doing(e, third));
    }
}
