import java.util.ArrayList;
import java.util.Arrays;
import java.util.HashMap;
import java.util.List;
import java.util.Map;
import java.util.Random;
import java.util.TreeMap;
import java.util.function.ToLongFunction;

/**
 * Runs of random calls (by fixed seeds) on LoadRoad and on a second, plain form of the document
 * that shares no code with it; every answer of the one must be that of the other.
 */
public final class RandomRuns {

    private static final int RUNS = 3000;
    private static final int CALLS = 500;

    public static void main(String[] args) {
        int runs = args.length > 0 ? Integer.parseInt(args[0]) : RUNS;
        long from = args.length > 1 ? Long.parseLong(args[1]) : 0;
        Map<String, Integer> telling = new TreeMap<>();
        for (long seed = from; seed < from + runs; seed++) {
            String wrong = new Run(seed, telling).go();
            if (wrong != null) {
                System.out.println(wrong);
                System.exit(1);
            }
        }
        if (args.length > 0) {
            System.out.println(telling);
        }
        System.out.println(runs + " random runs are as due");
    }

    // ---------------------------------------------------------------------------------------------

    static final class Run {
        final long seed;
        final Random random;
        final LoadRoad real = new LoadRoad();
        final Plain plain = new Plain();
        final Map<String, Integer> telling;
        final List<String> calls = new ArrayList<>();
        String wrong;

        Run(long seed, Map<String, Integer> telling) {
            this.seed = seed;
            this.random = new Random(seed);
            this.telling = telling;
        }

        int pick(int least, int most) {
            return least + random.nextInt(most - least + 1);
        }

        int people() {
            return random.nextInt(12) == 0 ? pick(-2, 5) : random.nextInt(Math.max(1, plain.now.paces.size()));
        }

        int things() {
            return random.nextInt(12) == 0 ? pick(-2, 7) : random.nextInt(Math.max(1, plain.now.things.size()));
        }

        int place() {
            return random.nextInt(12) == 0 ? pick(-2, 9) : random.nextInt(plain.now.furlongs.size() + 1);
        }

        int what(int most) {
            return random.nextInt(25) == 0 ? pick(-1, most + 1) : pick(0, most);
        }

        int within(int least, int most) {
            if (random.nextInt(15) == 0) {
                return random.nextBoolean() ? least - 1 : most + 1;
            }
            return random.nextBoolean() ? pick(least, Math.min(most, least + 12)) : pick(least, most);
        }

        void tell(String text, boolean asRoad) {
            byte[] bytes = Arrays.copyOf(latin(text), (text.length() + 19) / 20 * 20);
            for (int i = 0; i < bytes.length; i += 20) {
                int[] five = new int[5];
                for (int j = 0; j < 20; j++) {
                    five[j / 4] = five[j / 4] << 8 | bytes[i + j] & 255;
                }
                check("feed", five);
            }
            check("end", text.length());
            check(asRoad ? "road" : "rule");
        }

        String go() {
            Telling told = new Telling(random);
            if (random.nextInt(10) != 0) {
                tell(told.road(), true);
            }
            for (int i = random.nextInt(5); i > 0; i--) {
                tell(told.rule(), false);
            }
            while (calls.size() < CALLS && wrong == null) {
                int roll = random.nextInt(400);
                if (roll < 4) {
                    tell(told.road(), true);
                } else if (roll < 12) {
                    tell(told.rule(), false);
                } else if (roll < 14) {
                    check("feed", random.nextInt(), random.nextInt(), random.nextInt(), 32, 33);
                } else if (roll < 16) {
                    check("end", pick(-1, 30));
                } else {
                    act();
                }
            }
            return wrong;
        }

        void act() {
            switch (random.nextInt(34)) {
                case 0: check("force", pick(-2, 6)); break;
                case 1: check("person", people(), what(5)); break;
                case 2: check("thing", things(), what(2)); break;
                case 3: check("stage", pick(-1, 8)); break;
                case 4: case 5: case 33: check("day"); break;
                case 6: check("drop", people(), things()); break;
                case 7: case 8: check("take", people(), things()); break;
                case 9: case 10: check("give", people(), people(), things()); break;
                case 11: if (random.nextInt(4) == 0) check("rob", things()); break;
                case 12: check("undo"); break;
                case 13: check("ahead", random.nextBoolean() ? people() : things(), within(0, 100), what(2)); break;
                case 14: check("comes", people()); break;
                case 15: check("wealth", within(0, 100)); break;
                case 16: check("far", people(), pick(-1, 70)); break;
                case 17: check("load", people(), within(1, 60), what(2)); break;
                case 18: check("had", people(), place(), place(), within(1, 100), what(2)); break;
                case 19: case 20: check("exchange", people(), people(), what(2)); break;
                case 21: check("robbed", within(1, 60), what(1)); break;
                case 22: case 23: check("game", people(), people(), what(1)); break;
                case 24: check("pence", within(0, 9999), people()); break;
                case 25: noteOrForget(); break;
                case 26: check("ruled", what(1)); break;
                case 27: check("look", within(0, 60), what(1)); break;
                case 28: check("seed", random.nextInt() >>> random.nextInt(2)); break;
                case 29: check("thieves", within(1, 10), within(1, 60), within(0, 100), what(1)); break;
                case 30: check("count", pick(-1, 14)); break;
                case 31: if (random.nextInt(3) == 0) check("image", pick(-1, 4)); break;
                default: if (random.nextInt(3) == 0) check("back", pick(-1, 4)); break;
            }
        }

        void noteOrForget() {
            if (random.nextInt(6) == 0) {
                check("note", -1, people(), place());
            } else if (random.nextBoolean()) {
                check("note", within(0, 60), people(), place());
            } else {
                // A NOTE that holds by some RULE, so that not all are ruled out at once.
                int n = pick(0, 12);
                int who = people();
                if (who >= 0 && who < plain.now.paces.size()) {
                    int rule = pick(-1, plain.rules.size() - 1);
                    check("note", n, who, plain.placesOf(rule, n)[who]);
                }
            }
        }

        void check(String name, int... a) {
            if (wrong != null) {
                return;
            }
            int got = call(name, a);
            int want = plain.call(name, a);
            calls.add(name + Arrays.toString(a) + " = " + want);
            if (want >= 0) {
                telling.merge(name, 1, Integer::sum);
            }
            if (got != want) {
                wrong = "seed " + seed + ": " + String.join("\n", calls) + "\nanswered " + got;
            }
        }

        int call(String name, int[] a) {
            switch (name) {
                case "feed": return real.feed(a[0], a[1], a[2], a[3], a[4]);
                case "end": return real.end(a[0]);
                case "road": return real.road();
                case "rule": return real.rule();
                case "force": return real.force(a[0]);
                case "person": return real.person(a[0], a[1]);
                case "thing": return real.thing(a[0], a[1]);
                case "stage": return real.stage(a[0]);
                case "day": return real.day();
                case "drop": return real.drop(a[0], a[1]);
                case "take": return real.take(a[0], a[1]);
                case "give": return real.give(a[0], a[1], a[2]);
                case "rob": return real.rob(a[0]);
                case "undo": return real.undo();
                case "ahead": return real.ahead(a[0], a[1], a[2]);
                case "comes": return real.comes(a[0]);
                case "wealth": return real.wealth(a[0]);
                case "far": return real.far(a[0], a[1]);
                case "load": return real.load(a[0], a[1], a[2]);
                case "had": return real.had(a[0], a[1], a[2], a[3], a[4]);
                case "exchange": return real.exchange(a[0], a[1], a[2]);
                case "robbed": return real.robbed(a[0], a[1]);
                case "game": return real.game(a[0], a[1], a[2]);
                case "pence": return real.pence(a[0], a[1]);
                case "note": return real.note(a[0], a[1], a[2]);
                case "ruled": return real.ruled(a[0]);
                case "look": return real.look(a[0], a[1]);
                case "seed": return real.seed(a[0]);
                case "thieves": return real.thieves(a[0], a[1], a[2], a[3]);
                case "count": return real.count(a[0]);
                case "image": return real.image(a[0]);
                default: return real.back(a[0]);
            }
        }
    }

    static byte[] latin(String text) {
        byte[] bytes = new byte[text.length()];
        for (int i = 0; i < bytes.length; i++) {
            bytes[i] = (byte) text.charAt(i);
        }
        return bytes;
    }

    // ---------------------------------------------------------------------------------------------

    /** Texts, most of them without a FAULT. */
    static final class Telling {
        final Random random;

        Telling(Random random) {
            this.random = random;
        }

        int pick(int least, int most) {
            return least + random.nextInt(most - least + 1);
        }

        String one(String... of) {
            return of[random.nextInt(of.length)];
        }

        String road() {
            List<String> clauses = new ArrayList<>();
            int hands = pick(0, 4);
            int people = random.nextInt(20) == 0 ? 5 : pick(0, 4);
            int things = random.nextInt(20) == 0 ? 7 : pick(random.nextInt(5) == 0 ? 0 : 2, 6);
            int far = one("a", "b").equals("a") ? 9 : 60;
            for (int i = random.nextInt(20) == 0 ? 9 : pick(0, 8); i > 0; i--) {
                clauses.add("stage " + pick(1, far));
            }
            List<String> later = new ArrayList<>();
            int pace = pick(1, 20);
            for (int i = 0; i < people; i++) {
                clauses.add("person " + (random.nextInt(3) == 0 ? pick(1, 20) : pace));
            }
            for (int i = 0; i < things; i++) {
                clauses.add("thing " + pick(0, 9) + " " + (random.nextBoolean() ? pick(0, 50) : pick(0, 6)));
            }
            int[] many = new int[4];
            for (int i = 0; i < things; i++) {
                int who = pick(0, 3);
                if (who < people && many[who] < hands && random.nextInt(5) < 3) {
                    later.add("has " + who + " " + i);
                    many[who]++;
                }
            }
            if (random.nextInt(3) == 0) {
                java.util.Collections.shuffle(clauses, random);
            }
            if (random.nextInt(15) == 0) {
                later.add(one("has 0 0", "has 3 1", "road 1", "stage 0", "person 21", "thing 1 51", "has 1 5", "thing 3", "stage 60000000"));
            }
            clauses.add(0, "road " + hands);
            clauses.addAll(later);
            return spoilt(spread(String.join(";", clauses)));
        }

        String rule() {
            StringBuilder text = new StringBuilder();
            boolean crowded = random.nextInt(10) == 0;
            int clauses = crowded ? pick(10, 14) : pick(1, 4);
            for (int i = 0; i < clauses; i++) {
                text.append(i == 0 ? "" : ";").append("carry ");
                text.append(sum(crowded ? 2 : random.nextInt(12) == 0 ? 30 : 3));
                // Few TESTS in a crowd, so that it is the CLAUSES that are too many.
                if (crowded ? random.nextInt(6) == 0 : i < clauses - 1 || random.nextBoolean()) {
                    text.append(" if ").append(test(random.nextInt(15) == 0 ? pick(11, 16) : crowded ? 0 : 3));
                }
            }
            return spoilt(spread(text.toString()));
        }

        String sum(int most) {
            StringBuilder text = new StringBuilder(value());
            for (int i = random.nextInt(most); i > 0; i--) {
                text.append(one("+", "-", "*", "/", "%", " - ")).append(value());
            }
            return text.toString();
        }

        String value() {
            if (random.nextInt(3) == 0) {
                return random.nextInt(40) == 0 ? "" + pick(0, 2000000) : "" + pick(0, random.nextInt(6) == 0 ? 99999 : 9);
            }
            return one("person", "thing", "weight", "worth", "has", "many", "load", "place", "left", "pace", "road", "day");
        }

        String test(int depth) {
            StringBuilder text = new StringBuilder(fact(depth));
            for (int i = random.nextInt(3); i > 0; i--) {
                text.append(one(" and ", " or ")).append(fact(depth - 1));
            }
            return text.toString();
        }

        String fact(int depth) {
            boolean deeper = depth > 3 ? random.nextInt(10) > 0 : depth > 0 && random.nextInt(9) < 4;
            if (deeper) {
                return random.nextBoolean() ? "not " + fact(depth - 1) : "[" + test(depth - 1) + "]";
            }
            return sum(2) + one("<", "<=", "=", ">=", ">") + sum(2);
        }

        String spread(String text) {
            if (random.nextInt(4) > 0) {
                return text;
            }
            StringBuilder wide = new StringBuilder();
            for (char sign : text.toCharArray()) {
                if (!Character.isLetterOrDigit(sign) && sign != '=' && random.nextInt(4) == 0) {
                    wide.append(' ');
                }
                wide.append(sign);
            }
            return random.nextBoolean() ? wide + " " : wide.toString();
        }

        String spoilt(String text) {
            String cut = text.length() > 400 ? text.substring(0, 400) : text;
            if (random.nextInt(6) > 0 || cut.isEmpty()) {
                return cut;
            }
            StringBuilder bad = new StringBuilder(cut);
            for (int i = pick(1, 2); i > 0 && bad.length() > 0; i--) {
                int at = random.nextInt(bad.length());
                char sign = random.nextInt(8) == 0 ? (char) pick(0, 255) : ";[]=<> 0127+-*/%acnotrihs".charAt(random.nextInt(24));
                switch (random.nextInt(4)) {
                    case 0: bad.setCharAt(at, sign); break;
                    case 1: bad.deleteCharAt(at); break;
                    case 2: bad.setLength(at); break;
                    default: bad.insert(at, sign); break;
                }
            }
            bad.setLength(Math.min(400, bad.length()));
            return bad.toString();
        }
    }

    // ---------------------------------------------------------------------------------------------

    static final class Fault extends RuntimeException {
        private static final long serialVersionUID = 1L;
        final int number;

        Fault(int place, int kind) {
            super("fault");
            number = 1 + 8 * place + kind;
        }
    }

    static final class Token {
        final String text;
        final int place;

        Token(String text, int place) {
            this.text = text;
            this.place = place;
        }

        boolean isNumber() {
            return !text.isEmpty() && Character.isDigit(text.charAt(0)) && text.charAt(0) < 128;
        }
    }

    static final class Clause {
        ToLongFunction<Map<String, Long>> sum;
        ToLongFunction<Map<String, Long>> test;
    }

    /** All tokens first; the empty one is the end. */
    static class Parser {
        final List<Token> tokens = new ArrayList<>();
        int at;
        int parts;

        Parser(String text) {
            int i = 0;
            while (i < text.length()) {
                int from = i;
                char c = text.charAt(i);
                if (c == ' ') {
                    i++;
                    continue;
                }
                if (c >= 'a' && c <= 'z') {
                    while (i < text.length() && text.charAt(i) >= 'a' && text.charAt(i) <= 'z') i++;
                } else if (c >= '0' && c <= '9') {
                    while (i < text.length() && text.charAt(i) >= '0' && text.charAt(i) <= '9') i++;
                } else if ((c == '<' || c == '>') && text.startsWith("=", i + 1)) {
                    i += 2;
                } else {
                    i++;
                }
                tokens.add(new Token(text.substring(from, i), from));
            }
            tokens.add(new Token("", text.length()));
        }

        Token peek() {
            return tokens.get(at);
        }

        boolean sees(String... of) {
            return Arrays.asList(of).contains(peek().text);
        }

        Token take() {
            return tokens.get(at++);
        }

        Token need(String... of) {
            if (!sees(of)) {
                throw new Fault(peek().place, 0);
            }
            return take();
        }

        int number(int least, int most) {
            if (!peek().isNumber()) {
                throw new Fault(peek().place, 0);
            }
            Token token = take();
            if (token.text.length() > 5 || Integer.parseInt(token.text) < least || Integer.parseInt(token.text) > most) {
                throw new Fault(token.place, 1);
            }
            return Integer.parseInt(token.text);
        }

        World road() {
            World w = new World();
            int clauses = 0;
            do {
                Token first = need("road", "stage", "person", "thing", "has");
                clauses++;
                boolean isRoad = first.text.equals("road");
                if (clauses > 40 || isRoad != (clauses == 1)
                        || first.text.equals("stage") && w.furlongs.size() == 8
                        || first.text.equals("person") && w.paces.size() == 4
                        || first.text.equals("thing") && w.things.size() == 6) {
                    throw new Fault(first.place, 4);
                }
                if (isRoad) {
                    w.hands = number(0, 4);
                } else if (first.text.equals("stage")) {
                    w.furlongs.add(number(1, 60));
                } else if (first.text.equals("person")) {
                    w.paces.add(number(1, 20));
                } else if (first.text.equals("thing")) {
                    w.things.add(new int[] {number(0, 9), number(0, 50)});
                    w.start.add(10);
                } else {
                    int place = peek().place;
                    int who = number(0, w.paces.size() - 1);
                    if (w.start.stream().filter(x -> x == who).count() >= w.hands) {
                        throw new Fault(place, 1);
                    }
                    place = peek().place;
                    int thing = number(0, w.things.size() - 1);
                    if (w.start.get(thing) != 10) {
                        throw new Fault(place, 1);
                    }
                    w.start.set(thing, who);
                }
            } while (need(";", "").text.equals(";"));
            w.told = true;
            return w;
        }

        List<Clause> rule() {
            List<Clause> clauses = new ArrayList<>();
            do {
                Token first = need("carry");
                if (clauses.size() == 12) {
                    throw new Fault(first.place, 4);
                }
                Clause clause = new Clause();
                clause.sum = sum();
                if (sees("if")) {
                    take();
                    clause.test = test(0);
                }
                clauses.add(clause);
            } while (need(";", "").text.equals(";"));
            return clauses;
        }

        ToLongFunction<Map<String, Long>> test(int depth) {
            ToLongFunction<Map<String, Long>> left = part(depth);
            while (sees("or")) {
                take();
                ToLongFunction<Map<String, Long>> a = left;
                ToLongFunction<Map<String, Long>> b = part(depth);
                left = w -> a.applyAsLong(w) != 0 || b.applyAsLong(w) != 0 ? 1 : 0;
            }
            return left;
        }

        ToLongFunction<Map<String, Long>> part(int depth) {
            ToLongFunction<Map<String, Long>> left = fact(depth);
            while (sees("and")) {
                take();
                ToLongFunction<Map<String, Long>> a = left;
                ToLongFunction<Map<String, Long>> b = fact(depth);
                left = w -> a.applyAsLong(w) != 0 && b.applyAsLong(w) != 0 ? 1 : 0;
            }
            return left;
        }

        ToLongFunction<Map<String, Long>> fact(int depth) {
            if (sees("not", "[") && depth == 10) {
                throw new Fault(peek().place, 2);
            }
            if (sees("not")) {
                take();
                ToLongFunction<Map<String, Long>> a = fact(depth + 1);
                return w -> 1 - a.applyAsLong(w);
            }
            if (sees("[")) {
                take();
                ToLongFunction<Map<String, Long>> a = test(depth + 1);
                need("]");
                return a;
            }
            ToLongFunction<Map<String, Long>> a = sum();
            Token sign = need("<", "<=", "=", ">=", ">");
            another(sign);
            ToLongFunction<Map<String, Long>> b = sum();
            return w -> {
                int order = Long.compare(a.applyAsLong(w), b.applyAsLong(w));
                switch (sign.text) {
                    case "<": return order < 0 ? 1 : 0;
                    case "<=": return order <= 0 ? 1 : 0;
                    case "=": return order == 0 ? 1 : 0;
                    case ">=": return order >= 0 ? 1 : 0;
                    default: return order > 0 ? 1 : 0;
                }
            };
        }

        void another(Token token) {
            if (++parts > 60) {
                throw new Fault(token.place, 3);
            }
        }

        ToLongFunction<Map<String, Long>> sum() {
            ToLongFunction<Map<String, Long>> left = term();
            while (sees("+", "-")) {
                boolean plus = take().text.equals("+");
                ToLongFunction<Map<String, Long>> a = left;
                ToLongFunction<Map<String, Long>> b = term();
                left = w -> plus ? a.applyAsLong(w) + b.applyAsLong(w) : a.applyAsLong(w) - b.applyAsLong(w);
            }
            return left;
        }

        ToLongFunction<Map<String, Long>> term() {
            ToLongFunction<Map<String, Long>> left = value();
            while (sees("*", "/", "%")) {
                String sign = take().text;
                ToLongFunction<Map<String, Long>> a = left;
                ToLongFunction<Map<String, Long>> b = value();
                left = w -> {
                    long x = a.applyAsLong(w);
                    long y = b.applyAsLong(w);
                    if (sign.equals("*")) return x * y;
                    if (y == 0) return 0;
                    return sign.equals("/") ? x / y : x % y;
                };
            }
            return left;
        }

        ToLongFunction<Map<String, Long>> value() {
            Token token = peek();
            if (token.isNumber()) {
                long value = number(0, 99999);
                another(token);
                return w -> value;
            }
            need("person", "thing", "weight", "worth", "has", "many", "load", "place", "left", "pace", "road", "day");
            another(token);
            return w -> w.get(token.text);
        }
    }

    // ---------------------------------------------------------------------------------------------

    static final class Pos {
        int day;
        int[] place = new int[4];
        int[] gone = new int[4];
        int[] where = new int[6];

        Pos copy() {
            Pos p = new Pos();
            p.day = day;
            p.place = place.clone();
            p.gone = gone.clone();
            p.where = where.clone();
            return p;
        }
    }

    static final class World {
        boolean told;
        int hands;
        List<Integer> furlongs = new ArrayList<>();
        List<Integer> paces = new ArrayList<>();
        List<int[]> things = new ArrayList<>();
        List<Integer> start = new ArrayList<>();
        Pos pos = new Pos();
        List<Pos> past = new ArrayList<>();
        List<int[]> notes = new ArrayList<>();
        int force = -1;
        int x;

        World copy() {
            World w = new World();
            w.told = told;
            w.hands = hands;
            w.furlongs = furlongs;
            w.paces = paces;
            w.things = things;
            w.start = start;
            w.pos = pos.copy();
            w.past = new ArrayList<>(past);
            w.notes = new ArrayList<>(notes);
            w.force = force;
            w.x = x;
            return w;
        }
    }

    static final class Plain {
        String tape = "";
        World now = new World();
        List<List<Clause>> rules = new ArrayList<>();
        World[] images = new World[4];

        boolean isWho(int p) {
            return p >= 0 && p < now.paces.size();
        }

        boolean isIt(int t) {
            return t >= 0 && t < now.things.size();
        }

        boolean stands(int p) {
            return isWho(p) && now.pos.gone[p] == 0;
        }

        boolean together(int p, int q) {
            return stands(p) && stands(q) && p != q && now.pos.place[p] == now.pos.place[q];
        }

        static boolean in(int n, int least, int most) {
            return n >= least && n <= most;
        }

        List<Integer> thingsOf(Pos pos, int where) {
            List<Integer> list = new ArrayList<>();
            for (int t = 0; t < now.things.size(); t++) {
                if (pos.where[t] == where) list.add(t);
            }
            return list;
        }

        int bits(List<Integer> list) {
            int b = 0;
            for (int t : list) b += 1 << t;
            return b;
        }

        List<Integer> list(int bits) {
            List<Integer> list = new ArrayList<>();
            for (int t = 0; t < 6; t++) if ((bits & 1 << t) != 0) list.add(t);
            return list;
        }

        int sum(List<Integer> list, int which) {
            return list.stream().mapToInt(t -> now.things.get(t)[which]).sum();
        }

        int days(int who, int from, int to, List<Integer> with) {
            int days = 0;
            int place = from;
            int gone = 0;
            while (place < to) {
                days++;
                gone += now.paces.get(who);
                if (gone >= now.furlongs.get(place) + sum(with, 0)) {
                    place++;
                    gone = 0;
                }
            }
            return days;
        }

        int daysTo(int who, List<Integer> with) {
            return days(who, now.pos.place[who], now.furlongs.size(), with);
        }

        int step(Pos pos, int force) {
            int come = 0;
            for (int p = 0; p < now.paces.size(); p++) {
                int place = pos.place[p];
                if (place == now.furlongs.size()) continue;
                if (force >= 0 && pos.gone[p] == 0) {
                    for (int t = 0; t < now.things.size(); t++) {
                        if (pos.where[t] != p && pos.where[t] != 10 + place) continue;
                        boolean wanted = judge(pos, force, p, t) > 0;
                        boolean has = pos.where[t] == p;
                        if (!wanted) {
                            pos.where[t] = 10 + place;
                        } else if (!has && thingsOf(pos, p).size() < now.hands) {
                            pos.where[t] = p;
                        }
                    }
                }
                pos.gone[p] += now.paces.get(p);
                if (pos.gone[p] >= now.furlongs.get(place) + sum(thingsOf(pos, p), 0)) {
                    pos.gone[p] = 0;
                    pos.place[p]++;
                    come |= 1 << p;
                }
            }
            pos.day++;
            return come;
        }

        long judge(Pos pos, int force, int p, int t) {
            Map<String, Long> w = new HashMap<>();
            List<Integer> has = thingsOf(pos, p);
            w.put("person", (long) p);
            w.put("thing", (long) t);
            w.put("weight", (long) now.things.get(t)[0]);
            w.put("worth", (long) now.things.get(t)[1]);
            w.put("has", has.contains(t) ? 1L : 0L);
            w.put("many", (long) has.size());
            w.put("load", (long) sum(has, 0));
            w.put("place", (long) pos.place[p]);
            w.put("left", (long) now.furlongs.size() - pos.place[p]);
            w.put("pace", (long) now.paces.get(p));
            w.put("road", (long) now.furlongs.get(pos.place[p]));
            w.put("day", (long) pos.day);
            for (Clause clause : rules.get(force)) {
                if (clause.test == null || clause.test.applyAsLong(w) != 0) return clause.sum.applyAsLong(w);
            }
            return 0;
        }

        Pos onwards(Pos from, int force, int n) {
            Pos pos = from.copy();
            for (int i = 0; i < n; i++) step(pos, force);
            return pos;
        }

        Pos first() {
            Pos pos = new Pos();
            Arrays.fill(pos.where, -1);
            for (int t = 0; t < now.start.size(); t++) pos.where[t] = now.start.get(t);
            return pos;
        }

        int[] placesOf(int rule, int n) {
            return onwards(first(), rule, n).place;
        }

        int worthIn(Pos pos) {
            int much = 0;
            for (int t = 0; t < now.things.size(); t++) {
                int where = pos.where[t];
                if (where == -1) continue;
                int place = where >= 10 ? where - 10 : pos.gone[where] > 0 ? -1 : pos.place[where];
                if (place == now.furlongs.size()) much += now.things.get(t)[1];
            }
            return much;
        }

        int inTown(Pos pos) {
            int b = 0;
            for (int p = 0; p < now.paces.size(); p++) if (pos.place[p] == now.furlongs.size()) b |= 1 << p;
            return b;
        }

        void keep() {
            now.past.add(now.pos.copy());
            if (now.past.size() > 20) now.past.remove(0);
        }

        int call(String name, int[] a) {
            switch (name) {
                case "feed": return feed(a);
                case "end": return end(a[0]);
                case "road": return road();
                case "rule": return rule();
                case "force": return force(a[0]);
                case "person": return person(a[0], a[1]);
                case "thing": return !isIt(a[0]) || !in(a[1], 0, 2) ? -2 : a[1] == 2 ? now.pos.where[a[0]] : now.things.get(a[0])[a[1]];
                case "stage": return in(a[0], 0, now.furlongs.size() - 1) ? now.furlongs.get(a[0]) : -1;
                case "day": return day();
                case "drop": return drop(a[0], a[1]);
                case "take": return take(a[0], a[1]);
                case "give": return give(a[0], a[1], a[2]);
                case "rob": return rob(a[0]);
                case "undo": return undo();
                case "ahead": return ahead(a[0], a[1], a[2]);
                case "comes": return comes(a[0]);
                case "wealth": return now.told && in(a[0], 0, 100) ? worthIn(onwards(now.pos, now.force, a[0])) : -1;
                case "far": return stands(a[0]) && isSet(a[1]) ? daysTo(a[0], list(a[1])) : -1;
                case "load": return load(a[0], a[1], a[2]);
                case "had": return had(a);
                case "exchange": return exchange(a[0], a[1], a[2]);
                case "robbed": return robbed(a[0], a[1]);
                case "game": return game(a[0], a[1], a[2]);
                case "pence": return pence(a[0], a[1]);
                case "note": return note(a[0], a[1], a[2]);
                case "ruled": return ruled(a[0]);
                case "look": return look(a[0], a[1]);
                case "seed": return seed(a[0]);
                case "thieves": return thieves(a[0], a[1], a[2], a[3]);
                case "count": return count(a[0]);
                case "image": return image(a[0]);
                default: return back(a[0]);
            }
        }

        boolean isSet(int set) {
            return set >= 0 && set < 1 << now.things.size() && list(set).size() <= now.hands;
        }

        int feed(int[] a) {
            if (tape.length() > 380) return -1;
            for (int n : a) {
                tape += "" + (char) (n >>> 24) + (char) (n >>> 16 & 255) + (char) (n >>> 8 & 255) + (char) (n & 255);
            }
            return tape.length();
        }

        int end(int n) {
            if (!in(n, 0, tape.length())) return -1;
            tape = tape.substring(0, n);
            return n;
        }

        int road() {
            String text = tape;
            tape = "";
            try {
                World w = new Parser(text).road();
                w.force = now.force;
                w.x = now.x;
                now = w;
                now.pos = first();
                return now.paces.size();
            } catch (Fault fault) {
                return -2 - fault.number;
            }
        }

        int rule() {
            if (rules.size() == 6) return -1;
            String text = tape;
            tape = "";
            try {
                rules.add(new Parser(text).rule());
                return rules.size() - 1;
            } catch (Fault fault) {
                return -2 - fault.number;
            }
        }

        int force(int rule) {
            if (!in(rule, -1, rules.size() - 1)) return -2;
            int was = now.force;
            now.force = rule;
            return was;
        }

        int person(int p, int what) {
            if (!isWho(p)) return -1;
            List<Integer> has = thingsOf(now.pos, p);
            int[] all = {now.paces.get(p), now.pos.place[p], now.pos.gone[p], bits(has), sum(has, 0), sum(has, 1)};
            return in(what, 0, 5) ? all[what] : -1;
        }

        int day() {
            if (!now.told || now.pos.day >= 999) return -1;
            keep();
            return step(now.pos, now.force);
        }

        int drop(int p, int t) {
            if (!stands(p) || !isIt(t) || now.pos.where[t] != p) return -1;
            keep();
            now.pos.where[t] = 10 + now.pos.place[p];
            return thingsOf(now.pos, p).size();
        }

        int take(int p, int t) {
            if (!stands(p) || !isIt(t) || now.pos.where[t] != 10 + now.pos.place[p] || thingsOf(now.pos, p).size() == now.hands) return -1;
            keep();
            now.pos.where[t] = p;
            return thingsOf(now.pos, p).size();
        }

        int give(int p, int q, int t) {
            if (!together(p, q) || !isIt(t) || now.pos.where[t] != p || thingsOf(now.pos, q).size() == now.hands) return -1;
            keep();
            now.pos.where[t] = q;
            return thingsOf(now.pos, q).size();
        }

        int rob(int t) {
            if (!isIt(t) || now.pos.where[t] == -1) return -2;
            keep();
            int was = now.pos.where[t];
            now.pos.where[t] = -1;
            return was;
        }

        int undo() {
            if (now.past.isEmpty()) return -2;
            now.pos = now.past.remove(now.past.size() - 1).copy();
            return now.past.size();
        }

        int ahead(int number, int n, int what) {
            if (!in(what, 0, 2) || !in(n, 0, 100) || !(what == 2 ? isIt(number) : isWho(number))) return -2;
            Pos pos = onwards(now.pos, now.force, n);
            return (what == 0 ? pos.place : what == 1 ? pos.gone : pos.where)[number];
        }

        int comes(int p) {
            if (!isWho(p)) return -1;
            for (int n = 0; n < 200; n++) {
                if ((inTown(onwards(now.pos, now.force, n)) >> p & 1) == 1) return now.pos.day + n;
            }
            return -2;
        }

        int load(int p, int n, int what) {
            if (!stands(p) || !in(n, 1, 60) || !in(what, 0, 2)) return -1;
            List<int[]> all = new ArrayList<>();
            int reach = bits(thingsOf(now.pos, p)) | bits(thingsOf(now.pos, 10 + now.pos.place[p]));
            for (int set = 0; set < 64; set++) {
                if ((set & reach) == set && isSet(set) && daysTo(p, list(set)) <= n) {
                    all.add(new int[] {set, sum(list(set), 1), daysTo(p, list(set))});
                }
            }
            all.sort((u, v) -> u[1] != v[1] ? v[1] - u[1] : u[2] != v[2] ? u[2] - v[2] : u[0] - v[0]);
            return all.isEmpty() ? -2 : all.get(0)[what];
        }

        int had(int[] a) {
            if (!isWho(a[0]) || !in(a[1], 0, now.furlongs.size()) || !in(a[2], a[1] + 1, now.furlongs.size()) || !in(a[3], 1, 100) || !in(a[4], 0, 2)) return -3;
            List<Integer> all = new ArrayList<>();
            for (int set = 0; set < 64; set++) {
                if (isSet(set) && days(a[0], a[1], a[2], list(set)) == a[3]) all.add(set);
            }
            if (all.isEmpty()) return new int[] {0, -2, 0}[a[4]];
            return new int[] {all.size(), all.get(0), all.stream().reduce(63, (u, v) -> u & v)}[a[4]];
        }

        int exchange(int p, int q, int what) {
            if (!together(p, q) || !in(what, 0, 2)) return -2;
            List<Integer> ofP = thingsOf(now.pos, p);
            List<Integer> ofQ = thingsOf(now.pos, q);
            int[] best = {daysTo(p, ofP) + daysTo(q, ofQ), -1, -1};
            for (int t : ofP) {
                for (int u : ofQ) {
                    List<Integer> thenP = new ArrayList<>(ofP);
                    List<Integer> thenQ = new ArrayList<>(ofQ);
                    thenP.set(ofP.indexOf(t), u);
                    thenQ.set(ofQ.indexOf(u), t);
                    int days = daysTo(p, thenP) + daysTo(q, thenQ);
                    if (days < best[0]) best = new int[] {days, t, u};
                }
            }
            return best[what];
        }

        int robbed(int n, int what) {
            if (!now.told || !in(n, 1, 60) || !in(what, 0, 1)) return -2;
            int[] best = {-1, worthIn(onwards(now.pos, now.force, n))};
            for (int t = 0; t < now.things.size(); t++) {
                Pos pos = now.pos.copy();
                pos.where[t] = -1;
                int much = worthIn(onwards(pos, now.force, n));
                if (much > best[1]) best = new int[] {t, much};
            }
            return best[what];
        }

        int game(int p, int q, int what) {
            if (!together(p, q) || !in(what, 0, 1)) return -10000;
            return play(p, q, thingsOf(now.pos, p), thingsOf(now.pos, q), thingsOf(now.pos, 10 + now.pos.place[p]), 0, new HashMap<>())[what];
        }

        /** Who is first to go now; the answer is by how much that one is ahead, and their move. */
        int[] play(int p, int q, List<Integer> ofP, List<Integer> ofQ, List<Integer> lie, int passed, Map<String, int[]> known) {
            if (passed == 2) {
                return new int[] {sum(ofP, 1) - daysTo(p, ofP) - sum(ofQ, 1) + daysTo(q, ofQ), -1};
            }
            String key = p + " " + bits(ofP) + " " + bits(ofQ) + " " + passed;
            if (known.containsKey(key)) return known.get(key);
            int[] best = {-play(q, p, ofQ, ofP, lie, passed + 1, known)[0], -1};
            if (ofP.size() < now.hands) {
                for (int t : lie) {
                    List<Integer> more = new ArrayList<>(ofP);
                    more.add(t);
                    List<Integer> less = new ArrayList<>(lie);
                    less.remove(Integer.valueOf(t));
                    int much = -play(q, p, ofQ, more, less, 0, known)[0];
                    if (much > best[0]) best = new int[] {much, t};
                }
            }
            known.put(key, best);
            return best;
        }

        int pence(int much, int p) {
            if (!isWho(p) || !in(much, 0, 9999)) return -1;
            int many = now.paces.size();
            int[] worth = new int[many];
            int all = 0;
            for (int i = 0; i < many; i++) all += worth[i] = sum(thingsOf(now.pos, i), 1);
            if (all == 0) return 0;
            int[] part = new int[many];
            int left = much;
            List<Integer> order = new ArrayList<>();
            for (int i = 0; i < many; i++) {
                part[i] = much * worth[i] / all;
                left -= part[i];
                order.add(i);
            }
            int total = all;
            order.sort((u, v) -> Integer.compare(much * worth[v] % total, much * worth[u] % total));
            for (int i = 0; i < left; i++) part[order.get(i)]++;
            return part[p];
        }

        int note(int n, int p, int place) {
            if (n == -1) {
                now.notes.clear();
                return 0;
            }
            if (!in(n, 0, 60) || !isWho(p) || !in(place, 0, now.furlongs.size()) || now.notes.size() == 10) return -2;
            now.notes.add(new int[] {n, p, place});
            return now.notes.size();
        }

        List<Integer> so() {
            List<Integer> so = new ArrayList<>();
            for (int rule = -1; rule < rules.size(); rule++) {
                boolean good = true;
                for (int[] note : now.notes) good &= placesOf(rule, note[0])[note[1]] == note[2];
                if (good) so.add(rule);
            }
            return so;
        }

        int ruled(int what) {
            if (!now.told || !in(what, 0, 1)) return -3;
            List<Integer> so = so();
            return what == 0 ? so.size() : so.isEmpty() ? -2 : so.get(0);
        }

        int look(int n, int what) {
            if (!now.told || !in(n, 0, 60) || !in(what, 0, 1)) return -1;
            List<Integer> so = so();
            if (so.isEmpty() || now.paces.isEmpty()) return -2;
            int[] best = null;
            for (int p = 0; p < now.paces.size(); p++) {
                Map<Integer, Integer> groups = new HashMap<>();
                for (int rule : so) groups.merge(placesOf(rule, n)[p], 1, Integer::sum);
                int most = groups.values().stream().max(Integer::compare).get();
                if (best == null || most < best[1]) best = new int[] {p, most};
            }
            return best[what];
        }

        int seed(int x) {
            if (x < 0) return -1;
            int was = now.x;
            now.x = x;
            return was;
        }

        int thieves(int m, int n, int p, int what) {
            if (!now.told || !in(m, 1, 10) || !in(n, 1, 60) || !in(p, 0, 100) || !in(what, 0, 1)) return -1;
            long[] x = {now.x};
            int sum = 0;
            for (int i = 0; i < m; i++) {
                Pos pos = now.pos.copy();
                for (int j = 0; j < n; j++) {
                    if (draw(x) % 100 < p && !now.things.isEmpty()) {
                        pos.where[(int) (draw(x) % now.things.size())] = -1;
                    }
                    step(pos, now.force);
                }
                sum += what == 0 ? worthIn(pos) : Integer.bitCount(inTown(pos));
            }
            return sum;
        }

        static long draw(long[] x) {
            x[0] = (x[0] * 1103515245L + 12345L) & 0x7fffffffL;
            return x[0] >> 16;
        }

        int count(int what) {
            if (!in(what, 0, 13)) return -1;
            int[] all = {now.hands, now.furlongs.size(), now.paces.size(), now.things.size(), rules.size(), now.force,
                now.pos.day, inTown(now.pos), worthIn(now.pos), bits(thingsOf(now.pos, -1)), now.notes.size(),
                now.past.size(), now.x, tape.length()};
            return all[what];
        }

        int image(int k) {
            if (!in(k, 0, 3)) return -1;
            images[k] = now.copy();
            return now.pos.day;
        }

        int back(int k) {
            if (!in(k, 0, 3) || images[k] == null) return -1;
            now = images[k].copy();
            return now.pos.day;
        }
    }
}
