import java.util.function.Supplier;
import java.util.function.ToIntFunction;

/** What the tests by hand share: texts are told, answers weighed, and what a call left as it was. */
abstract class Bench {

    static final int LEAST = Integer.MIN_VALUE;
    static final int MOST = Integer.MAX_VALUE;

    private static String sentence = "";
    private static int sentences = 0;
    private static int asked = 0;
    private static int wrong = 0;

    /** The sentence of the document that is tested from here on. */
    static void says(String words) {
        sentence = words;
        sentences++;
    }

    static void due(String what, int got, int want) {
        must(what, got == want, got + ", due is " + want);
    }

    static void must(String what, boolean so, String answered) {
        asked++;
        if (!so) {
            wrong++;
            System.out.println("'" + sentence + "': " + what + " answered " + answered);
        }
    }

    static void finish() {
        if (wrong != 0) {
            System.out.println(wrong + " answers are not as due");
            System.exit(1);
        }
        System.out.println(asked + " answers are as due" + (sentences > 0 ? ", of " + sentences + " sentences" : ""));
    }

    // ---- texts ----------------------------------------------------------------------------------

    static void put(LoadRoad x, String text) {
        for (int i = 0; i < text.length(); i += 20) {
            int[] five = new int[5];
            for (int j = 0; j < 20; j++) {
                int sign = i + j < text.length() ? text.charAt(i + j) : 0;
                five[j / 4] = five[j / 4] << 8 | sign;
            }
            x.feed(five[0], five[1], five[2], five[3], five[4]);
        }
        x.end(text.length());
    }

    static int road(LoadRoad x, String text) {
        put(x, text);
        return x.road();
    }

    static int rule(LoadRoad x, String text) {
        put(x, text);
        return x.rule();
    }

    /** A new one on a ROAD, with RULES, of which the first, if any, is IN FORCE. */
    static LoadRoad on(String text, String... rules) {
        LoadRoad x = new LoadRoad();
        if (road(x, text) < 0) {
            throw new IllegalStateException(text);
        }
        for (String each : rules) {
            if (rule(x, each) < 0) {
                throw new IllegalStateException(each);
            }
        }
        x.force(rules.length > 0 ? 0 : -1);
        return x;
    }

    static void days(LoadRoad x, int n) {
        for (int i = 0; i < n; i++) {
            x.day();
        }
    }

    static int fault(int place, int kind) {
        return -2 - (1 + 8 * place + kind);
    }

    static String many(int n, String text) {
        return text.repeat(n);
    }

    static String blanks(int n) {
        return " ".repeat(n);
    }

    /** Whether a TEST holds for person 0, who goes 3 and has thing 0, of thing 1, on day 0. */
    static boolean holds(String test) {
        LoadRoad x = on("road 2;stage 5;stage 7;person 3;thing 2 9;thing 4 6;has 0 0",
                "carry 1 if thing=0;carry 1 if " + test);
        x.day();
        return x.thing(1, 2) == 0;
    }

    static void so(String test) {
        due("'" + test + "' holds", holds(test) ? 1 : 0, 1);
        due("'not[" + test + "]' does not", holds("not[" + test + "]") ? 1 : 0, 0);
    }

    /** Whether a SUM is above 0, so that a THING that lies there is carried. */
    static boolean isAbove(String sum) {
        LoadRoad x = on("road 1;stage 5;person 3;thing 2 9", "carry " + sum);
        x.day();
        return x.thing(0, 2) == 0;
    }

    // ---- numbers that are too small or too large --------------------------------------------------

    static int[] outside(int least, int most) {
        return new int[] {least - 1, least - 2, LEAST, LEAST + 1, most + 1, most + 2, MOST, MOST - 1};
    }

    // ---- what a call left as it was ---------------------------------------------------------------

    /** A call that is refused: its answer, and that all is as on another one without that call. */
    static void refused(String what, Supplier<LoadRoad> make, ToIntFunction<LoadRoad> call, int want) {
        LoadRoad x = make.get();
        due(what, call.applyAsInt(x), want);
        same(what, x, make.get());
    }

    /** A call that only asks is, of what it leaves, like one that is refused. */
    static void asks(String what, Supplier<LoadRoad> make, ToIntFunction<LoadRoad> call, int want) {
        refused(what, make, call, want);
    }

    static void same(String what, LoadRoad x, LoadRoad as) {
        String got = all(x);
        String want = all(as);
        int at = 0;
        while (at < got.length() && at < want.length() && got.charAt(at) == want.charAt(at)) {
            at++;
        }
        int from = Math.max(0, at - 60);
        must("all behind " + what, got.equals(want), "another thing: .. "
                + got.substring(from, Math.min(got.length(), at + 30)) + " .., due is .. "
                + want.substring(from, Math.min(want.length(), at + 30)));
    }

    /** All there is to be known, with what is undone and gone back to; nothing is left of x then. */
    static String all(LoadRoad x) {
        StringBuilder text = new StringBuilder();
        state(x, text);
        plans(x, text);
        text.append(" past");
        past(x, text);
        for (int k = 0; k < 4; k++) {
            text.append(" image ").append(k).append(": ").append(x.back(k));
            state(x, text);
            past(x, text);
        }
        text.append(" tape ").append(x.road()).append(' ').append(x.count(0));
        return text.toString();
    }

    private static void past(LoadRoad x, StringBuilder text) {
        for (int i = 0; i < 21; i++) {
            text.append(" undo ").append(x.undo());
            state(x, text);
        }
    }

    private static void state(LoadRoad x, StringBuilder text) {
        text.append(" counts");
        for (int what = 0; what < 14; what++) {
            text.append(' ').append(x.count(what));
        }
        for (int p = 0; p < 4; p++) {
            text.append(" person ").append(p);
            for (int what = 0; what < 6; what++) {
                text.append(' ').append(x.person(p, what));
            }
        }
        for (int t = 0; t < 6; t++) {
            text.append(" thing ").append(t);
            for (int what = 0; what < 3; what++) {
                text.append(' ').append(x.thing(t, what));
            }
        }
        text.append(" stages");
        for (int s = 0; s < 8; s++) {
            text.append(' ').append(x.stage(s));
        }
        text.append(" ruled ").append(x.ruled(0)).append(' ').append(x.ruled(1));
    }

    private static void plans(LoadRoad x, StringBuilder text) {
        text.append(" plans");
        for (int n = 0; n <= 60; n += 12) {
            text.append(' ').append(x.wealth(n)).append(' ').append(x.look(n, 0)).append(' ').append(x.look(n, 1));
            text.append(' ').append(x.robbed(n, 0)).append(' ').append(x.thieves(2, n, 50, 0));
            for (int i = 0; i < 6; i++) {
                text.append(' ').append(x.ahead(i, n, 0)).append(' ').append(x.ahead(i, n, 2));
                text.append(' ').append(x.load(i, n, 0)).append(' ').append(x.far(i, n));
            }
        }
        for (int p = 0; p < 4; p++) {
            text.append(' ').append(x.comes(p)).append(' ').append(x.pence(100, p));
            for (int q = 0; q < 4; q++) {
                text.append(' ').append(x.game(p, q, 0)).append(' ').append(x.exchange(p, q, 0));
            }
        }
    }
}
