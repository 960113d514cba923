import java.util.Arrays;

/**
 * A road that is longer for each weight one carries along it: told as a text, walked by days, by
 * rules that are told as texts, too.
 */
public final class LoadRoad {

    public static final int NONE = -1;

    private static final int WRONG = -2;
    private static final int MOST_STAGES = 8;
    private static final int MOST_PEOPLE = 4;
    private static final int MOST_THINGS = 6;
    private static final int MOST_RULES = 6;
    private static final int MOST_IMAGES = 4;
    private static final int LAST_DAY = 999;
    private static final int LAST_NOTED_DAY = 60;
    private static final int DAYS_TO_COME = 200;
    private static final int NO_GAME = -10000;

    /** Where a THING is, is a PERSON, or this and the PLACE at which it lies, or NONE. */
    private static final int LYING = 10;

    private final Tape tape;
    private final RoadReader roadReader;
    private final RuleReader ruleReader;
    private final Rule[] rules;
    private int ruleCount;
    private final World world;
    private final World[] images;
    private final boolean[] imageMade;
    private final Days days;
    private final Plans plans;
    private final Game game;
    private final State trial;
    /** The PLACES of PEOPLE by which LOOK parts: a row for none and for each RULE. */
    private final int[][] seen;

    public LoadRoad() {
        tape = new Tape();
        roadReader = new RoadReader(tape);
        ruleReader = new RuleReader(tape);
        rules = new Rule[MOST_RULES];
        for (int i = 0; i < MOST_RULES; i++) {
            rules[i] = new Rule();
        }
        world = new World();
        images = new World[MOST_IMAGES];
        for (int i = 0; i < MOST_IMAGES; i++) {
            images[i] = new World();
        }
        imageMade = new boolean[MOST_IMAGES];
        days = new Days(world.road);
        plans = new Plans(world.road, world.state);
        game = new Game(world.road, world.state);
        trial = new State();
        seen = new int[MOST_RULES + 1][MOST_PEOPLE];
    }

    // ---- what is told -------------------------------------------------------------------------

    public int feed(int a, int b, int c, int d, int e) {
        if (!tape.hasRoom(20)) {
            return NONE;
        }
        tape.add(a);
        tape.add(b);
        tape.add(c);
        tape.add(d);
        tape.add(e);
        return tape.length;
    }

    public int end(int n) {
        if (n < 0 || n > tape.length) {
            return NONE;
        }
        tape.length = n;
        return n;
    }

    public int road() {
        boolean good = roadReader.read();
        tape.length = 0;
        if (!good) {
            return -2 - tape.fault;
        }
        world.begin(roadReader.road);
        return world.road.people;
    }

    public int rule() {
        if (ruleCount >= MOST_RULES) {
            return NONE;
        }
        boolean good = ruleReader.read(rules[ruleCount]);
        tape.length = 0;
        if (!good) {
            return -2 - tape.fault;
        }
        ruleCount++;
        return ruleCount - 1;
    }

    public int force(int rule) {
        if (rule < NONE || rule >= ruleCount) {
            return WRONG;
        }
        int was = world.force;
        world.force = rule;
        return was;
    }

    // ---- how it is ----------------------------------------------------------------------------

    public int person(int person, int what) {
        if (!world.road.isPerson(person)) {
            return NONE;
        }
        int things = world.state.hadBy(person);
        switch (what) {
            case 0: return world.road.pace[person];
            case 1: return world.state.place[person];
            case 2: return world.state.gone[person];
            case 3: return things;
            case 4: return world.road.weightOf(things);
            case 5: return world.road.worthOf(things);
            default: return NONE;
        }
    }

    public int thing(int thing, int what) {
        if (!world.road.isThing(thing)) {
            return WRONG;
        }
        switch (what) {
            case 0: return world.road.weight[thing];
            case 1: return world.road.worth[thing];
            case 2: return world.state.where[thing];
            default: return WRONG;
        }
    }

    public int stage(int stage) {
        return world.road.isStage(stage) ? world.road.furlongs[stage] : NONE;
    }

    public int count(int what) {
        switch (what) {
            case 0: return world.road.hands;
            case 1: return world.road.stages;
            case 2: return world.road.people;
            case 3: return world.road.things;
            case 4: return ruleCount;
            case 5: return world.force;
            case 6: return world.state.day;
            case 7: return days.peopleInTown(world.state);
            case 8: return days.worthInTown(world.state);
            case 9: return world.road.allThings() & world.state.thingsAt(NONE);
            case 10: return world.notes;
            case 11: return world.past.many;
            case 12: return world.x;
            case 13: return tape.length;
            default: return NONE;
        }
    }

    // ---- acts ---------------------------------------------------------------------------------

    public int day() {
        if (!world.road.told || world.state.day >= LAST_DAY) {
            return NONE;
        }
        world.past.keep(world.state);
        return days.oneDay(world.state, inForce());
    }

    public int drop(int person, int thing) {
        State state = world.state;
        if (!isAtPlace(person) || !world.road.isThing(thing) || state.where[thing] != person) {
            return NONE;
        }
        world.past.keep(state);
        state.where[thing] = LYING + state.place[person];
        return state.manyOf(person);
    }

    public int take(int person, int thing) {
        State state = world.state;
        if (!isAtPlace(person) || !world.road.isThing(thing) || !hasFreeHand(person)
                || state.where[thing] != LYING + state.place[person]) {
            return NONE;
        }
        world.past.keep(state);
        state.where[thing] = person;
        return state.manyOf(person);
    }

    public int give(int one, int other, int thing) {
        State state = world.state;
        if (!areAtOnePlace(one, other) || !world.road.isThing(thing) || !hasFreeHand(other)
                || state.where[thing] != one) {
            return NONE;
        }
        world.past.keep(state);
        state.where[thing] = other;
        return state.manyOf(other);
    }

    public int rob(int thing) {
        State state = world.state;
        if (!world.road.isThing(thing) || state.where[thing] == NONE) {
            return WRONG;
        }
        int was = state.where[thing];
        world.past.keep(state);
        state.where[thing] = NONE;
        return was;
    }

    public int undo() {
        if (world.past.many == 0) {
            return WRONG;
        }
        world.past.bringBack(world.state);
        return world.past.many;
    }

    // ---- how it goes on -----------------------------------------------------------------------

    public int ahead(int number, int n, int what) {
        boolean ofThing = what == 2;
        boolean known = ofThing ? world.road.isThing(number) : world.road.isPerson(number);
        if (!known || what < 0 || what > 2 || n < 0 || n > 100) {
            return WRONG;
        }
        goOnFromNow(n);
        if (ofThing) {
            return trial.where[number];
        }
        return what == 0 ? trial.place[number] : trial.gone[number];
    }

    public int comes(int person) {
        if (!world.road.isPerson(person)) {
            return NONE;
        }
        trial.copy(world.state);
        for (int i = 0; i < DAYS_TO_COME; i++) {
            if (trial.place[person] == world.road.stages) {
                return trial.day;
            }
            days.oneDay(trial, inForce());
        }
        return WRONG;
    }

    public int wealth(int n) {
        if (!world.road.told || n < 0 || n > 100) {
            return NONE;
        }
        goOnFromNow(n);
        return days.worthInTown(trial);
    }

    public int robbed(int n, int what) {
        if (!world.road.told || n < 1 || n > 60 || what < 0 || what > 1) {
            return WRONG;
        }
        int best = NONE;
        int most = wealthWithout(NONE, n);
        for (int thing = 0; thing < world.road.things; thing++) {
            int much = wealthWithout(thing, n);
            if (much > most) {
                most = much;
                best = thing;
            }
        }
        return what == 0 ? best : most;
    }

    private int wealthWithout(int thing, int n) {
        trial.copy(world.state);
        if (world.road.isThing(thing)) {
            trial.where[thing] = NONE;
        }
        days.goOn(trial, inForce(), n);
        return days.worthInTown(trial);
    }

    // ---- what had best be done ----------------------------------------------------------------

    public int far(int person, int things) {
        if (!isAtPlace(person) || !plans.canBeCarried(things)) {
            return NONE;
        }
        return plans.daysToTown(person, things);
    }

    public int load(int person, int n, int what) {
        if (!isAtPlace(person) || n < 1 || n > 60 || what < 0 || what > 2) {
            return NONE;
        }
        int set = plans.bestLoad(person, n);
        if (set == NONE) {
            return WRONG;
        }
        switch (what) {
            case 0: return set;
            case 1: return world.road.worthOf(set);
            default: return plans.daysToTown(person, set);
        }
    }

    public int had(int person, int from, int to, int n, int what) {
        if (!world.road.isPerson(person) || from < 0 || to <= from || to > world.road.stages
                || n < 1 || n > 100 || what < 0 || what > 2) {
            return -3;
        }
        return plans.thatTook(person, from, to, n, what);
    }

    public int exchange(int one, int other, int what) {
        if (!areAtOnePlace(one, other) || what < 0 || what > 2) {
            return WRONG;
        }
        int pair = plans.bestExchange(one, other);
        if (what == 0) {
            return plans.daysOfBoth(one, other, pair);
        }
        if (pair == NONE) {
            return NONE;
        }
        return what == 1 ? pair / MOST_THINGS : pair % MOST_THINGS;
    }

    public int game(int one, int other, int what) {
        if (!areAtOnePlace(one, other) || what < 0 || what > 1) {
            return NO_GAME;
        }
        game.play(one, other);
        return what == 0 ? game.much : game.move;
    }

    public int pence(int much, int person) {
        if (!world.road.isPerson(person) || much < 0 || much > 9999) {
            return NONE;
        }
        return plans.penceOf(much, person);
    }

    // ---- notes --------------------------------------------------------------------------------

    public int note(int n, int person, int place) {
        if (n == NONE) {
            world.notes = 0;
            return 0;
        }
        if (n < 0 || n > LAST_NOTED_DAY || !world.road.isPerson(person)
                || !world.road.isPlace(place) || !world.canNote()) {
            return WRONG;
        }
        world.addNote(n, person, place);
        return world.notes;
    }

    public int ruled(int what) {
        if (!world.road.told || what < 0 || what > 1) {
            return -3;
        }
        int many = 0;
        int first = WRONG;
        for (int rule = NONE; rule < ruleCount; rule++) {
            if (wouldBeAsNoted(rule)) {
                if (many == 0) {
                    first = rule;
                }
                many++;
            }
        }
        return what == 0 ? many : first;
    }

    public int look(int n, int what) {
        if (!world.road.told || n < 0 || n > LAST_NOTED_DAY || what < 0 || what > 1) {
            return NONE;
        }
        int rows = seeAt(n);
        if (rows == 0) {
            return WRONG;
        }
        int best = WRONG;
        int fewest = WRONG;
        for (int person = 0; person < world.road.people; person++) {
            int alike = mostAlike(rows, person);
            if (best == WRONG || alike < fewest) {
                best = person;
                fewest = alike;
            }
        }
        return what == 0 ? best : fewest;
    }

    /** Whether all NOTES are so from the begin on by a RULE, or by none. */
    private boolean wouldBeAsNoted(int rule) {
        world.road.begin(trial);
        for (int n = 0; n <= LAST_NOTED_DAY; n++) {
            if (!world.isAsNoted(trial)) {
                return false;
            }
            days.oneDay(trial, ruleOf(rule));
        }
        return true;
    }

    /** Rows of PLACES at the begin of the n-th DAY, by each that is as noted: how many rows. */
    private int seeAt(int n) {
        int rows = 0;
        for (int rule = NONE; rule < ruleCount; rule++) {
            if (rows < seen.length && wouldBeAsNoted(rule)) {
                world.road.begin(trial);
                days.goOn(trial, ruleOf(rule), n);
                System.arraycopy(trial.place, 0, seen[rows], 0, MOST_PEOPLE);
                rows++;
            }
        }
        return rows;
    }

    /** Of the rows the most in which a PERSON is at one PLACE. */
    private int mostAlike(int rows, int person) {
        int most = 0;
        for (int row = 0; row < rows; row++) {
            int alike = 0;
            for (int other = 0; other < rows; other++) {
                if (seen[other][person] == seen[row][person]) {
                    alike++;
                }
            }
            most = Math.max(most, alike);
        }
        return most;
    }

    // ---- thieves ------------------------------------------------------------------------------

    public int seed(int x) {
        if (x < 0) {
            return NONE;
        }
        int was = world.x;
        world.x = x;
        return was;
    }

    public int thieves(int m, int n, int p, int what) {
        if (!world.road.told || m < 1 || m > 10 || n < 1 || n > 60 || p < 0 || p > 100
                || what < 0 || what > 1) {
            return NONE;
        }
        int x = world.x;
        int sum = 0;
        for (int time = 0; time < m; time++) {
            trial.copy(world.state);
            for (int i = 0; i < n; i++) {
                x = robByDraw(x, p);
                days.oneDay(trial, inForce());
            }
            sum += what == 0 ? days.worthInTown(trial)
                    : Integer.bitCount(days.peopleInTown(trial));
        }
        return sum;
    }

    /** Thieves come, or not, by DRAWS from x: what x is then. */
    private int robByDraw(int x, int p) {
        int next = drawnFrom(x);
        int things = world.road.things;
        if (next / 65536 % 100 >= p || things < 1) {
            return next;
        }
        next = drawnFrom(next);
        int thing = next / 65536 % things;
        if (world.road.isThing(thing)) {
            trial.where[thing] = NONE;
        }
        return next;
    }

    private static int drawnFrom(int x) {
        return (int) ((x * 1103515245L + 12345L) % 2147483648L);
    }

    // ---- images -------------------------------------------------------------------------------

    public int image(int k) {
        if (k < 0 || k >= MOST_IMAGES) {
            return NONE;
        }
        images[k].copy(world);
        imageMade[k] = true;
        return world.state.day;
    }

    public int back(int k) {
        if (k < 0 || k >= MOST_IMAGES || !imageMade[k]) {
            return NONE;
        }
        world.copy(images[k]);
        return world.state.day;
    }

    // ---- what several calls ask -----------------------------------------------------------------

    private Rule ruleOf(int rule) {
        return rule >= 0 && rule < ruleCount && rule < MOST_RULES ? rules[rule] : null;
    }

    private Rule inForce() {
        return ruleOf(world.force);
    }

    private void goOnFromNow(int n) {
        trial.copy(world.state);
        days.goOn(trial, inForce(), n);
    }

    private boolean isAtPlace(int person) {
        return world.road.isPerson(person) && world.state.gone[person] == 0;
    }

    private boolean areAtOnePlace(int one, int other) {
        return one != other && isAtPlace(one) && isAtPlace(other)
                && world.state.place[one] == world.state.place[other];
    }

    private boolean hasFreeHand(int person) {
        return world.state.manyOf(person) < world.road.hands;
    }

    // =============================================================================================

    /** The bytes that were fed, and how far a reader has come along them. */
    private static final class Tape {
        static final int MOST_BYTES = 400;
        static final int END = -1;
        private static final int BLANK = 32;
        private static final int MOST_DIGITS = 5;

        /** The kinds of FAULTS. */
        static final int MISPLACED = 0;
        static final int BAD_NUMBER = 1;
        static final int TOO_DEEP = 2;
        static final int TOO_LONG = 3;
        static final int TOO_MANY = 4;

        private final int[] bytes = new int[MOST_BYTES];
        int length;
        int at;
        int fault;

        boolean hasRoom(int more) {
            return length + more <= MOST_BYTES;
        }

        /** Four bytes more, the highest first. */
        void add(int number) {
            for (int shift = 24; shift >= 0; shift -= 8) {
                if (length < MOST_BYTES) {
                    bytes[length] = (number >> shift) & 255;
                    length++;
                }
            }
        }

        void rewind() {
            at = 0;
            fault = 0;
        }

        /** The first FAULT stays; false, so that a reader can hand it on. */
        boolean fail(int place, int kind) {
            if (fault == 0) {
                fault = 1 + 8 * place + kind;
            }
            return false;
        }

        /** Behind blanks: the byte there, or END. */
        int next() {
            while (at < length && bytes[at] == BLANK) {
                at++;
            }
            return byteAt(at);
        }

        private int byteAt(int place) {
            return place >= 0 && place < length ? bytes[place] : END;
        }

        static boolean isDigit(int sign) {
            return sign >= '0' && sign <= '9';
        }

        private static boolean isLetter(int sign) {
            return sign >= 'a' && sign <= 'z';
        }

        boolean takeSign(int sign) {
            next();
            return takeSignAtOnce(sign);
        }

        /** With no blanks ahead of it, as the second half of <= must be. */
        boolean takeSignAtOnce(int sign) {
            if (byteAt(at) != sign) {
                return false;
            }
            at++;
            return true;
        }

        /** The word that stands here is gone past, if it is this one. */
        boolean takeWord(String word) {
            next();
            int to = at + word.length();
            if (!stands(word, 0, word.length()) || isLetter(byteAt(to))) {
                return false;
            }
            at = to;
            return true;
        }

        /** Which word of a list (a blank behind each) stands here and is gone past; or NONE. */
        int takeWordOf(String list) {
            int index = 0;
            int from = 0;
            for (int i = 0; i < list.length(); i++) {
                if (list.charAt(i) == ' ') {
                    int to = at + i - from;
                    if (stands(list, from, i) && !isLetter(byteAt(to))) {
                        at = to;
                        return index;
                    }
                    index++;
                    from = i + 1;
                }
            }
            return NONE;
        }

        private boolean stands(String text, int from, int to) {
            if (at + to - from > length) {
                return false;
            }
            for (int i = from; i < to && i < text.length(); i++) {
                if (bytes[at + i - from] != text.charAt(i)) {
                    return false;
                }
            }
            return true;
        }

        /** A NUMBER from least to most, or NONE and a FAULT. */
        int number(int least, int most) {
            int from = at;
            int value = 0;
            while (at < length && isDigit(bytes[at])) {
                if (at - from < MOST_DIGITS) {
                    value = value * 10 + bytes[at] - '0';
                }
                at++;
            }
            if (at == from) {
                fail(from, MISPLACED);
                return NONE;
            }
            if (at - from > MOST_DIGITS || value < least || value > most) {
                fail(from, BAD_NUMBER);
                return NONE;
            }
            return value;
        }
    }

    /** What a text told of the road; it stays as it is while one goes along. */
    private static final class Road {
        boolean told;
        int hands;
        int stages;
        int people;
        int things;
        final int[] furlongs = new int[MOST_STAGES];
        final int[] pace = new int[MOST_PEOPLE];
        final int[] weight = new int[MOST_THINGS];
        final int[] worth = new int[MOST_THINGS];
        /** Where each THING is at first. */
        final int[] where = new int[MOST_THINGS];

        void clear() {
            told = false;
            hands = 0;
            stages = 0;
            people = 0;
            things = 0;
            Arrays.fill(where, NONE);
        }

        void copy(Road from) {
            told = from.told;
            hands = from.hands;
            stages = from.stages;
            people = from.people;
            things = from.things;
            System.arraycopy(from.furlongs, 0, furlongs, 0, MOST_STAGES);
            System.arraycopy(from.pace, 0, pace, 0, MOST_PEOPLE);
            System.arraycopy(from.weight, 0, weight, 0, MOST_THINGS);
            System.arraycopy(from.worth, 0, worth, 0, MOST_THINGS);
            System.arraycopy(from.where, 0, where, 0, MOST_THINGS);
        }

        /** All is as the text told it. */
        void begin(State state) {
            state.day = 0;
            Arrays.fill(state.place, 0);
            Arrays.fill(state.gone, 0);
            System.arraycopy(where, 0, state.where, 0, MOST_THINGS);
        }

        boolean isStage(int stage) {
            return stage >= 0 && stage < stages && stage < MOST_STAGES;
        }

        boolean isPlace(int place) {
            return place >= 0 && place <= stages;
        }

        boolean isPerson(int person) {
            return person >= 0 && person < people && person < MOST_PEOPLE;
        }

        boolean isThing(int thing) {
            return thing >= 0 && thing < things && thing < MOST_THINGS;
        }

        int allThings() {
            return (1 << things) - 1;
        }

        int weightOf(int set) {
            int sum = 0;
            for (int thing = 0; thing < MOST_THINGS; thing++) {
                if ((set >> thing & 1) == 1) {
                    sum += weight[thing];
                }
            }
            return sum;
        }

        int worthOf(int set) {
            int sum = 0;
            for (int thing = 0; thing < MOST_THINGS; thing++) {
                if ((set >> thing & 1) == 1) {
                    sum += worth[thing];
                }
            }
            return sum;
        }

        /** How many DAYS it is from a PLACE to a later one with a set of THINGS all the way. */
        int daysFor(int person, int from, int to, int set) {
            if (!isPerson(person) || pace[person] < 1) {
                return 0;
            }
            int heavy = weightOf(set);
            int sum = 0;
            for (int stage = Math.max(from, 0); stage < to && stage < MOST_STAGES; stage++) {
                sum += (furlongs[stage] + heavy + pace[person] - 1) / pace[person];
            }
            return sum;
        }
    }

    /** Reads a ROAD from the TAPE. */
    private static final class RoadReader {
        private static final int MOST_CLAUSES = 40;
        private static final String CLAUSES = "road stage person thing has ";
        private static final int ROAD = 0;
        private static final int STAGE = 1;
        private static final int PERSON = 2;
        private static final int THING = 3;

        private final Tape tape;
        /** Apart from the ROAD one is on, which stays if this one has a FAULT. */
        final Road road = new Road();

        RoadReader(Tape tape) {
            this.tape = tape;
        }

        boolean read() {
            road.clear();
            tape.rewind();
            for (int clause = 0; clause <= MOST_CLAUSES; clause++) {
                if (!readClause(clause)) {
                    return false;
                }
                if (tape.next() == Tape.END) {
                    road.told = true;
                    return true;
                }
                if (!tape.takeSign(';')) {
                    return tape.fail(tape.at, Tape.MISPLACED);
                }
            }
            return false;
        }

        private boolean readClause(int clause) {
            tape.next();
            int place = tape.at;
            int kind = tape.takeWordOf(CLAUSES);
            if (kind == NONE) {
                return tape.fail(place, Tape.MISPLACED);
            }
            if (clause >= MOST_CLAUSES || (kind == ROAD) != (clause == 0) || isFull(kind)) {
                return tape.fail(place, Tape.TOO_MANY);
            }
            switch (kind) {
                case ROAD: return readHands();
                case STAGE: return readStage();
                case PERSON: return readPerson();
                case THING: return readThing();
                default: return readHas();
            }
        }

        private boolean isFull(int kind) {
            return kind == STAGE && road.stages >= MOST_STAGES
                    || kind == PERSON && road.people >= MOST_PEOPLE
                    || kind == THING && road.things >= MOST_THINGS;
        }

        private boolean readHands() {
            tape.next();
            road.hands = tape.number(0, 4);
            return road.hands != NONE;
        }

        private boolean readStage() {
            tape.next();
            int furlongs = tape.number(1, 60);
            if (furlongs == NONE) {
                return false;
            }
            road.furlongs[road.stages] = furlongs;
            road.stages++;
            return true;
        }

        private boolean readPerson() {
            tape.next();
            int pace = tape.number(1, 20);
            if (pace == NONE) {
                return false;
            }
            road.pace[road.people] = pace;
            road.people++;
            return true;
        }

        private boolean readThing() {
            tape.next();
            int weight = tape.number(0, 9);
            if (weight == NONE) {
                return false;
            }
            tape.next();
            int worth = tape.number(0, 50);
            if (worth == NONE) {
                return false;
            }
            road.weight[road.things] = weight;
            road.worth[road.things] = worth;
            road.where[road.things] = LYING;
            road.things++;
            return true;
        }

        private boolean readHas() {
            tape.next();
            int personAt = tape.at;
            int person = tape.number(0, road.people - 1);
            if (person == NONE) {
                return false;
            }
            if (manyOf(person) >= road.hands) {
                return tape.fail(personAt, Tape.BAD_NUMBER);
            }
            tape.next();
            int thingAt = tape.at;
            int thing = tape.number(0, road.things - 1);
            if (thing == NONE) {
                return false;
            }
            if (road.where[thing] != LYING) {
                return tape.fail(thingAt, Tape.BAD_NUMBER);
            }
            road.where[thing] = person;
            return true;
        }

        private int manyOf(int person) {
            int many = 0;
            for (int where : road.where) {
                if (where == person) {
                    many++;
                }
            }
            return many;
        }
    }

    /**
     * A RULE, as a row of steps over a stack: a NUMBER is itself, all others are below 0. It is a
     * row, not a tree, so that it is made once and room is taken for it but once.
     */
    private static final class Rule {
        static final String WORDS =
                "person thing weight worth has many load place left pace road day ";
        static final int WORD_COUNT = 12;

        /** From here down the WORDS, by their order. */
        static final int FIRST_WORD = -1;
        static final int PLUS = -21;
        static final int MINUS = -22;
        static final int TIMES = -23;
        static final int BY = -24;
        static final int REST = -25;
        static final int BELOW = -26;
        static final int AT_MOST = -27;
        static final int SAME = -28;
        static final int AT_LEAST = -29;
        static final int ABOVE = -30;
        static final int AND = -31;
        static final int OR = -32;
        static final int NOT = -33;
        /** The end of a CLAUSE: its SUM lies on the stack, and above it its TEST, if it has one. */
        static final int CLAUSE = -34;
        static final int CLAUSE_IF = -35;

        private static final int STACK = 64;

        /** A step comes from a byte of the text at least, so there is room for all. */
        private final int[] steps = new int[Tape.MOST_BYTES];
        private final long[] stack = new long[STACK];
        private int size;
        private int top;

        void clear() {
            size = 0;
        }

        void add(int step) {
            if (size < steps.length) {
                steps[size] = step;
                size++;
            }
        }

        /** The SUM of the first CLAUSE that holds, by the values of the WORDS; 0 without one. */
        long sum(int[] words) {
            top = 0;
            for (int i = 0; i < size && i < steps.length; i++) {
                int step = steps[i];
                if (step >= 0) {
                    push(step);
                } else if (step > FIRST_WORD - WORD_COUNT) {
                    int word = FIRST_WORD - step;
                    push(word < words.length ? words[word] : 0);
                } else if (step == CLAUSE) {
                    return pop();
                } else if (step == CLAUSE_IF) {
                    boolean holds = pop() != 0;
                    long sum = pop();
                    if (holds) {
                        return sum;
                    }
                } else if (step == NOT) {
                    push(pop() == 0 ? 1 : 0);
                } else {
                    long right = pop();
                    push(ofTwo(step, pop(), right));
                }
            }
            return 0;
        }

        private void push(long value) {
            if (top < STACK) {
                stack[top] = value;
                top++;
            }
        }

        private long pop() {
            if (top < 1) {
                return 0;
            }
            top--;
            return stack[top];
        }

        private static long ofTwo(int step, long left, long right) {
            switch (step) {
                case PLUS: return left + right;
                case MINUS: return left - right;
                case TIMES: return left * right;
                case BY: return right == 0 ? 0 : left / right;
                case REST: return right == 0 ? 0 : left % right;
                case BELOW: return left < right ? 1 : 0;
                case AT_MOST: return left <= right ? 1 : 0;
                case SAME: return left == right ? 1 : 0;
                case AT_LEAST: return left >= right ? 1 : 0;
                case ABOVE: return left > right ? 1 : 0;
                case AND: return left & right;
                case OR: return left | right;
                default: return 0;
            }
        }
    }

    /** Reads a RULE from the TAPE. */
    private static final class RuleReader {
        private static final int MOST_CLAUSES = 12;
        private static final int MOST_DEEP = 10;
        private static final int MOST_PARTS = 60;
        private static final int MOST_NUMBER = 99999;
        private static final int NO_STEP = 0;

        private final Tape tape;
        private Rule rule;
        /** VALUES and FACTS made of a SIGN so far. */
        private int parts;

        RuleReader(Tape tape) {
            this.tape = tape;
        }

        boolean read(Rule into) {
            rule = into;
            rule.clear();
            parts = 0;
            tape.rewind();
            for (int clause = 0; clause <= MOST_CLAUSES; clause++) {
                tape.next();
                int place = tape.at;
                if (!tape.takeWord("carry")) {
                    return tape.fail(place, Tape.MISPLACED);
                }
                if (clause >= MOST_CLAUSES) {
                    return tape.fail(place, Tape.TOO_MANY);
                }
                if (!readSum()) {
                    return false;
                }
                boolean tested = tape.takeWord("if");
                if (tested && !readTest(0)) {
                    return false;
                }
                rule.add(tested ? Rule.CLAUSE_IF : Rule.CLAUSE);
                if (tape.next() == Tape.END) {
                    return true;
                }
                if (!tape.takeSign(';')) {
                    return tape.fail(tape.at, Tape.MISPLACED);
                }
            }
            return false;
        }

        /** FACTS, parted by and, or; an or waits till the PART on its right is read. */
        private boolean readTest(int depth) {
            int waiting = NO_STEP;
            if (!readFact(depth)) {
                return false;
            }
            for (int i = 0; i < Tape.MOST_BYTES; i++) {
                if (tape.takeWord("and")) {
                    if (!readFact(depth)) {
                        return false;
                    }
                    rule.add(Rule.AND);
                } else if (tape.takeWord("or")) {
                    addStep(waiting);
                    waiting = Rule.OR;
                    if (!readFact(depth)) {
                        return false;
                    }
                } else {
                    break;
                }
            }
            addStep(waiting);
            return true;
        }

        private boolean readFact(int depth) {
            tape.next();
            int place = tape.at;
            if (tape.takeWord("not")) {
                if (depth >= MOST_DEEP) {
                    return tape.fail(place, Tape.TOO_DEEP);
                }
                if (!readFact(depth + 1)) {
                    return false;
                }
                rule.add(Rule.NOT);
                return true;
            }
            if (tape.takeSign('[')) {
                if (depth >= MOST_DEEP) {
                    return tape.fail(place, Tape.TOO_DEEP);
                }
                return readTest(depth + 1)
                        && (tape.takeSign(']') || tape.fail(tape.at, Tape.MISPLACED));
            }
            if (!readSum()) {
                return false;
            }
            int sign = readSign();
            if (sign == NO_STEP || !readSum()) {
                return false;
            }
            rule.add(sign);
            return true;
        }

        /** The step of a SIGN; NO_STEP and a FAULT without one, or if there are too many. */
        private int readSign() {
            tape.next();
            int place = tape.at;
            int sign = NO_STEP;
            if (tape.takeSign('<')) {
                sign = tape.takeSignAtOnce('=') ? Rule.AT_MOST : Rule.BELOW;
            } else if (tape.takeSign('>')) {
                sign = tape.takeSignAtOnce('=') ? Rule.AT_LEAST : Rule.ABOVE;
            } else if (tape.takeSign('=')) {
                sign = Rule.SAME;
            }
            if (sign == NO_STEP) {
                tape.fail(place, Tape.MISPLACED);
                return NO_STEP;
            }
            if (parts >= MOST_PARTS) {
                tape.fail(place, Tape.TOO_LONG);
                return NO_STEP;
            }
            parts++;
            return sign;
        }

        /** VALUES, parted by signs; a + or - waits till the TERM on its right is read. */
        private boolean readSum() {
            int waiting = NO_STEP;
            if (!readValue()) {
                return false;
            }
            for (int i = 0; i < Tape.MOST_BYTES; i++) {
                int step = stepOf(tape.next());
                if (step == NO_STEP) {
                    break;
                }
                tape.at++;
                boolean waits = step == Rule.PLUS || step == Rule.MINUS;
                if (waits) {
                    addStep(waiting);
                    waiting = step;
                }
                if (!readValue()) {
                    return false;
                }
                if (!waits) {
                    rule.add(step);
                }
            }
            addStep(waiting);
            return true;
        }

        private void addStep(int step) {
            if (step != NO_STEP) {
                rule.add(step);
            }
        }

        private static int stepOf(int sign) {
            switch (sign) {
                case '+': return Rule.PLUS;
                case '-': return Rule.MINUS;
                case '*': return Rule.TIMES;
                case '/': return Rule.BY;
                case '%': return Rule.REST;
                default: return NO_STEP;
            }
        }

        private boolean readValue() {
            boolean isNumber = Tape.isDigit(tape.next());
            int place = tape.at;
            int value = isNumber ? tape.number(0, MOST_NUMBER) : tape.takeWordOf(Rule.WORDS);
            if (value == NONE) {
                return tape.fail(place, Tape.MISPLACED);
            }
            if (parts >= MOST_PARTS) {
                return tape.fail(place, Tape.TOO_LONG);
            }
            parts++;
            rule.add(isNumber ? value : Rule.FIRST_WORD - value);
            return true;
        }
    }

    /** How all is on a DAY: where PEOPLE and THINGS are. */
    private static final class State {
        int day;
        final int[] place = new int[MOST_PEOPLE];
        final int[] gone = new int[MOST_PEOPLE];
        final int[] where = new int[MOST_THINGS];

        void copy(State from) {
            day = from.day;
            System.arraycopy(from.place, 0, place, 0, MOST_PEOPLE);
            System.arraycopy(from.gone, 0, gone, 0, MOST_PEOPLE);
            System.arraycopy(from.where, 0, where, 0, MOST_THINGS);
        }

        /** The THINGS that are there, as bits. */
        int thingsAt(int there) {
            int set = 0;
            for (int thing = 0; thing < MOST_THINGS; thing++) {
                if (where[thing] == there) {
                    set |= 1 << thing;
                }
            }
            return set;
        }

        int hadBy(int person) {
            return thingsAt(person);
        }

        int manyOf(int person) {
            return Integer.bitCount(thingsAt(person));
        }

        int lyingBy(int person) {
            return thingsAt(LYING + place[person]);
        }
    }

    /** How all was ahead of each of the last ACTS, in a ring. */
    private static final class Past {
        private static final int MOST_ACTS = 20;

        private final State[] rows = new State[MOST_ACTS];
        private int first;
        int many;

        Past() {
            for (int i = 0; i < MOST_ACTS; i++) {
                rows[i] = new State();
            }
        }

        void clear() {
            first = 0;
            many = 0;
        }

        void copy(Past from) {
            first = from.first;
            many = from.many;
            for (int i = 0; i < MOST_ACTS; i++) {
                rows[i].copy(from.rows[i]);
            }
        }

        void keep(State state) {
            rows[(first + many) % MOST_ACTS].copy(state);
            if (many < MOST_ACTS) {
                many++;
            } else {
                first = (first + 1) % MOST_ACTS;
            }
        }

        void bringBack(State state) {
            if (many > 0) {
                many--;
                state.copy(rows[(first + many) % MOST_ACTS]);
            }
        }
    }

    /** All that an IMAGE holds. */
    private static final class World {
        private static final int MOST_NOTES = 10;

        final Road road = new Road();
        final State state = new State();
        final Past past = new Past();
        int force = NONE;
        int x;
        int notes;
        private final int[] noteDay = new int[MOST_NOTES];
        private final int[] notePerson = new int[MOST_NOTES];
        private final int[] notePlace = new int[MOST_NOTES];

        World() {
            road.clear();
            road.begin(state);
        }

        /** Another ROAD in place of the one there was. */
        void begin(Road told) {
            road.copy(told);
            road.begin(state);
            past.clear();
            notes = 0;
        }

        void copy(World from) {
            road.copy(from.road);
            state.copy(from.state);
            past.copy(from.past);
            force = from.force;
            x = from.x;
            notes = from.notes;
            System.arraycopy(from.noteDay, 0, noteDay, 0, MOST_NOTES);
            System.arraycopy(from.notePerson, 0, notePerson, 0, MOST_NOTES);
            System.arraycopy(from.notePlace, 0, notePlace, 0, MOST_NOTES);
        }

        boolean canNote() {
            return notes < MOST_NOTES;
        }

        void addNote(int n, int person, int place) {
            if (canNote()) {
                noteDay[notes] = n;
                notePerson[notes] = person;
                notePlace[notes] = place;
                notes++;
            }
        }

        /** Whether the NOTES of a state's DAY are so in it. */
        boolean isAsNoted(State then) {
            for (int i = 0; i < notes && i < MOST_NOTES; i++) {
                int person = notePerson[i];
                if (noteDay[i] == then.day && road.isPerson(person)
                        && then.place[person] != notePlace[i]) {
                    return false;
                }
            }
            return true;
        }
    }

    /** How DAYS go. */
    private static final class Days {
        private final Road road;
        private final int[] words = new int[Rule.WORD_COUNT];

        Days(Road road) {
            this.road = road;
        }

        void goOn(State state, Rule rule, int n) {
            for (int i = 0; i < n; i++) {
                oneDay(state, rule);
            }
        }

        /** Who comes to a PLACE on it, as bits. A RULE of null is none. */
        int oneDay(State state, Rule rule) {
            int come = 0;
            for (int person = 0; person < road.people; person++) {
                if (state.place[person] < road.stages) {
                    if (rule != null && state.gone[person] == 0) {
                        carryByRule(state, rule, person);
                    }
                    if (walk(state, person)) {
                        come |= 1 << person;
                    }
                }
            }
            state.day++;
            return come;
        }

        private void carryByRule(State state, Rule rule, int person) {
            int lying = LYING + state.place[person];
            for (int thing = 0; thing < road.things; thing++) {
                int where = state.where[thing];
                if (where == person || where == lying) {
                    setWords(state, person, thing);
                    if (rule.sum(words) <= 0) {
                        state.where[thing] = lying;
                    } else if (state.manyOf(person) < road.hands) {
                        state.where[thing] = person;
                    }
                }
            }
        }

        private void setWords(State state, int person, int thing) {
            int things = state.hadBy(person);
            int place = state.place[person];
            words[0] = person;
            words[1] = thing;
            words[2] = road.weight[thing];
            words[3] = road.worth[thing];
            words[4] = things >> thing & 1;
            words[5] = Integer.bitCount(things);
            words[6] = road.weightOf(things);
            words[7] = place;
            words[8] = road.stages - place;
            words[9] = road.pace[person];
            words[10] = road.isStage(place) ? road.furlongs[place] : 0;
            words[11] = state.day;
        }

        private boolean walk(State state, int person) {
            int stage = state.place[person];
            int length = road.isStage(stage) ? road.furlongs[stage] : 0;
            state.gone[person] += road.pace[person];
            if (state.gone[person] < length + road.weightOf(state.hadBy(person))) {
                return false;
            }
            state.place[person]++;
            state.gone[person] = 0;
            return true;
        }

        int peopleInTown(State state) {
            int set = 0;
            for (int person = 0; person < road.people; person++) {
                if (state.place[person] == road.stages) {
                    set |= 1 << person;
                }
            }
            return set;
        }

        int worthInTown(State state) {
            int there = state.thingsAt(LYING + road.stages);
            for (int person = 0; person < road.people; person++) {
                if (state.place[person] == road.stages) {
                    there |= state.hadBy(person);
                }
            }
            return road.worthOf(there);
        }
    }

    /** What had best be carried, exchanged, parted. */
    private static final class Plans {
        private final Road road;
        private final State state;

        Plans(Road road, State state) {
            this.road = road;
            this.state = state;
        }

        boolean canBeCarried(int set) {
            return set >= 0 && set <= road.allThings() && Integer.bitCount(set) <= road.hands;
        }

        int daysToTown(int person, int set) {
            return road.daysFor(person, state.place[person], road.stages, set);
        }

        /** The set with which one had best be in the TOWN in n DAYS; NONE without such. */
        int bestLoad(int person, int n) {
            int reach = state.hadBy(person) | state.lyingBy(person);
            int best = NONE;
            int most = 0;
            int fewest = 0;
            for (int set = 0; set <= road.allThings(); set++) {
                if ((set & ~reach) == 0 && canBeCarried(set)) {
                    int worth = road.worthOf(set);
                    int days = daysToTown(person, set);
                    boolean better = best == NONE || worth > most
                            || worth == most && days < fewest;
                    if (days <= n && better) {
                        best = set;
                        most = worth;
                        fewest = days;
                    }
                }
            }
            return best;
        }

        /** Of the sets with which it takes just n DAYS: how many, the least, what is in all. */
        int thatTook(int person, int from, int to, int n, int what) {
            int many = 0;
            int least = WRONG;
            int inAll = road.allThings();
            for (int set = 0; set <= road.allThings(); set++) {
                if (canBeCarried(set) && road.daysFor(person, from, to, set) == n) {
                    if (many == 0) {
                        least = set;
                    }
                    inAll &= set;
                    many++;
                }
            }
            if (what == 0) {
                return many;
            }
            if (what == 1) {
                return least;
            }
            return many == 0 ? 0 : inAll;
        }

        /** Two THINGS as one number, that of the first one times MOST_THINGS; NONE: nothing. */
        int bestExchange(int one, int other) {
            int ones = state.hadBy(one);
            int others = state.hadBy(other);
            int best = NONE;
            int fewest = daysOfBoth(one, other, NONE);
            for (int pair = 0; pair < MOST_THINGS * MOST_THINGS; pair++) {
                boolean bothHave = (ones >> (pair / MOST_THINGS) & 1) == 1
                        && (others >> (pair % MOST_THINGS) & 1) == 1;
                if (bothHave) {
                    int days = daysOfBoth(one, other, pair);
                    if (days < fewest) {
                        best = pair;
                        fewest = days;
                    }
                }
            }
            return best;
        }

        /** DAYS to the TOWN of both, together, if they have exchanged a pair of THINGS. */
        int daysOfBoth(int one, int other, int pair) {
            int changed = pair == NONE ? 0
                    : (1 << (pair / MOST_THINGS)) | (1 << (pair % MOST_THINGS));
            return daysToTown(one, state.hadBy(one) ^ changed)
                    + daysToTown(other, state.hadBy(other) ^ changed);
        }

        int penceOf(int much, int person) {
            int all = 0;
            for (int each = 0; each < road.people; each++) {
                all += worthBy(each);
            }
            if (all == 0) {
                return 0;
            }
            int left = much;
            int ahead = 0;
            int lost = much * worthBy(person) % all;
            for (int each = 0; each < road.people; each++) {
                int product = much * worthBy(each);
                left -= product / all;
                int lostByEach = product % all;
                if (lostByEach > lost || lostByEach == lost && each < person) {
                    ahead++;
                }
            }
            return much * worthBy(person) / all + (ahead < left ? 1 : 0);
        }

        private int worthBy(int person) {
            return road.worthOf(state.hadBy(person));
        }
    }

    /**
     * The GAME of two over what lies at their PLACE. How it stands is a number whose digits, of
     * three, tell of each THING that lay there who took it: 0 nobody yet, 1 the first one, 2 the
     * second one. To take a THING makes the number higher, so that from the highest one down all
     * that can follow is known already, and nothing needs to be played twice.
     */
    private static final class Game {
        private static final int MOST_STANDS = 729;
        private static final int SETS = 1 << MOST_THINGS;

        private final Road road;
        private final State state;
        /** Of how it stands, whose turn it is and whether the other one has just passed. */
        private final int[] value = new int[MOST_STANDS * 4];
        /** What each of the two is worth by the set of THINGS they have. */
        private final int[][] worth = new int[2][SETS];
        private final int[] thingOf = new int[MOST_THINGS];
        private final int[] digitOf = new int[MOST_THINGS];
        private int lying;
        /** What each of the two has as it stands. */
        private final int[] sets = new int[2];
        int much;
        int move;

        Game(Road road, State state) {
            this.road = road;
            this.state = state;
        }

        void play(int one, int other) {
            setWorth(0, one);
            setWorth(1, other);
            int stands = layOut(one);
            int firstSet = state.hadBy(one);
            int secondSet = state.hadBy(other);
            for (int stand = Math.min(stands, MOST_STANDS) - 1; stand >= 0; stand--) {
                sets[0] = firstSet | takenBy(stand, 1);
                sets[1] = secondSet | takenBy(stand, 2);
                int atEnd = worthOfSet(0) - worthOfSet(1);
                value[stand * 4 + 1] = best(stand, 0, atEnd);
                value[stand * 4 + 3] = best(stand, 1, atEnd);
                value[stand * 4 + 2] = best(stand, 1, value[stand * 4 + 1]);
                // The last of all, at the begin, by the first one: its move is the one asked for.
                value[stand * 4] = best(stand, 0, value[stand * 4 + 3]);
            }
            much = value[0];
        }

        private void setWorth(int turn, int person) {
            for (int set = 0; set < SETS; set++) {
                worth[turn][set] = road.worthOf(set)
                        - road.daysFor(person, state.place[person], road.stages, set);
            }
        }

        private int worthOfSet(int turn) {
            int set = sets[turn];
            return set >= 0 && set < SETS ? worth[turn][set] : 0;
        }

        /** The THINGS that lie there have digits: how many ways it can stand. */
        private int layOut(int person) {
            int set = state.lyingBy(person);
            int stands = 1;
            lying = 0;
            for (int thing = 0; thing < MOST_THINGS; thing++) {
                if ((set >> thing & 1) == 1) {
                    thingOf[lying] = thing;
                    digitOf[lying] = stands;
                    lying++;
                    stands *= 3;
                }
            }
            return stands;
        }

        private static boolean isDigit(int stand, int unit, int digit) {
            return unit > 0 && stand / unit % 3 == digit;
        }

        private int takenBy(int stand, int digit) {
            int set = 0;
            for (int i = 0; i < lying && i < MOST_THINGS; i++) {
                if (isDigit(stand, digitOf[i], digit)) {
                    set |= 1 << thingOf[i];
                }
            }
            return set;
        }

        /** The best that one can do as it stands, to pass (worth as told) or to take a THING. */
        private int best(int stand, int turn, int toPass) {
            int best = toPass;
            move = NONE;
            if (Integer.bitCount(sets[turn]) >= road.hands) {
                return best;
            }
            for (int i = 0; i < lying && i < MOST_THINGS; i++) {
                int next = (stand + (turn + 1) * digitOf[i]) * 4 + (1 - turn) * 2;
                if (isDigit(stand, digitOf[i], 0) && next < value.length) {
                    int then = value[next];
                    if (turn == 0 ? then > best : then < best) {
                        best = then;
                        move = thingOf[i];
                    }
                }
            }
            return best;
        }
    }
}
