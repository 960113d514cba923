/** The boundary cases of texts: the TAPE, ROADS, RULES and their FAULTS; section I, promises 1 to 6. */
public final class TextEdges extends Bench {

    public static void main(String[] args) {
        calls();
        newObject();
        feedTooMuch();
        feedOrder();
        endOfTape();
        longestTexts();
        mostClauses();
        hands();
        roadOnce();
        furlongs();
        pace();
        weightAndWorth();
        has();
        mostOfEach();
        places();
        begin();
        sixRules();
        twelveClauses();
        ifOrNot();
        ands();
        signs();
        sums();
        digits();
        words();
        wordsAtTheirEdges();
        divisions();
        sixtyFourBits();
        blankPlaces();
        deep();
        sixty();
        faultFirst();
        faultMisplaced();
        faultMisplacedBytes();
        faultEnd();
        faultNumber();
        faultDeep();
        faultTooLong();
        faultTooMany();
        faultLeast();
        roadCall();
        roadCallAnother();
        ruleCall();
        forceCall();
        finish();
    }

    private static int road(String text) {
        return road(new LoadRoad(), text);
    }

    private static int rule(String text) {
        return rule(new LoadRoad(), text);
    }

    private static void roadIs(String text, int people) {
        due("'" + text + "'", road(text), people);
    }

    private static void roadFault(String text, int place, int kind) {
        due("'" + text + "'", road(text), fault(place, kind));
    }

    private static void ruleIs(String text) {
        due("'" + text + "'", rule(text), 0);
    }

    private static void ruleFault(String text, int place, int kind) {
        due("'" + text + "'", rule(text), fault(place, kind));
    }

    // ---- what it is -----------------------------------------------------------------------------

    private static void calls() {
        says("An object is used for at most 512 calls after it has been made");
        LoadRoad x = new LoadRoad();
        put(x, "road 1;stage 60;stage 60;stage 60;stage 60;stage 60;stage 60;stage 60;stage 60;person 1");
        x.road();
        // 5 feeds, an end and the road are 7 calls
        for (int call = 8; call <= 511; call++) {
            due("call " + call, x.day(), (call - 7) % 60 == 0 && call - 7 <= 480 ? 1 : 0);
        }
        due("the 512th call", x.count(6), 504);
    }

    private static void newObject() {
        says("No ROAD, no RULES, none IN FORCE");
        LoadRoad x = new LoadRoad();
        due("a DAY, as there is no ROAD", x.day(), -1);
        due("RULES", x.count(4), 0);
        due("the RULE IN FORCE", x.count(5), -1);
        due("HANDS", x.count(0), 0);
        due("STAGES", x.count(1), 0);
        due("PEOPLE", x.count(2), 0);
        due("THINGS", x.count(3), 0);
        due("x", x.count(12), 0);
        due("TAPE", x.count(13), 0);
        due("the RULE that was", x.force(-1), -1);
        due("two of them have nothing of one another", new LoadRoad().count(4), 0);
        says("NONE = -1");
        due("NONE", LoadRoad.NONE, -1);
    }

    // ---- the tape -------------------------------------------------------------------------------

    private static LoadRoad taped(String text) {
        LoadRoad x = new LoadRoad();
        put(x, text);
        return x;
    }

    private static void feedTooMuch() {
        says("how many it has; NONE, and none comes, if it would have more than 400");
        LoadRoad x = new LoadRoad();
        for (int i = 1; i <= 20; i++) {
            due("feed " + i, x.feed(LEAST, -1, 0, 1, MOST), 20 * i);
        }
        due("a 21st", x.feed(1, 2, 3, 4, 5), -1);
        due("400 still", x.count(13), 400);
        String text = "road 3" + blanks(394);
        for (int n = 381; n <= 400; n++) {
            int length = n;
            LoadRoad y = taped(text);
            y.end(length);
            due("20 behind " + n, y.feed(-1, -1, -1, -1, -1), -1);
            due("none came behind " + n, y.count(13), n);
            due("and what was there is a ROAD, of " + n, y.road(), 0);
            due("its HANDS, of " + n, y.count(0), 3);
        }
        LoadRoad z = taped(text);
        z.end(380);
        due("20 behind 380", z.feed(0, 0, 0, 0, 0), 400);
        z.end(379);
        due("20 behind 379", z.feed(0, 0, 0, 0, 0), 399);
        due("20 behind 399", z.feed(0, 0, 0, 0, 0), -1);
        refused("a feed into a full TAPE", () -> taped(text), y -> y.feed(1, 1, 1, 1, 1), -1);
    }

    private static void feedOrder() {
        says("Twenty bytes come behind the TAPE, of each number the highest first");
        LoadRoad x = new LoadRoad();
        // each byte of the twenty told apart: 'road' ' 4;s' 'tage' ' 17;' 'pers', then 'on 9'
        x.feed(0x726f6164, 0x20343b73, 0x74616765, 0x2031373b, 0x70657273);
        x.feed(0x6f6e2039, 0x20202020, 0x20202020, 0x20202020, 0x20202020);
        due("road", x.road(), 1);
        due("hands", x.count(0), 4);
        due("furlongs", x.stage(0), 17);
        due("pace", x.person(0, 0), 9);
        x.feed(0x726f6164, 0x2034E120, 0x20202020, 0x20202020, 0x20202020);
        due("a byte above 127", x.road(), fault(6, 0));
        x.feed(0x726f6164, 0x20340020, 0x20202020, 0x20202020, 0x20202020);
        due("a byte 0", x.road(), fault(6, 0));
        x.feed(0x726f6164, 0x20342020, 0x20202020, 0x20202020, 0x202020FF);
        due("the last byte of all", x.road(), fault(19, 0));
        x.feed(0xF26f6164, 0, 0, 0, 0);
        due("the first byte of all", x.road(), fault(0, 0));
        // 0xA0 is a blank but for its highest bit
        x.feed(0x726f6164, 0xA0342020, 0x20202020, 0x20202020, 0x20202020);
        due("a byte is all its bits", x.road(), fault(4, 0));
    }

    private static void endOfTape() {
        says("The TAPE has its first n bytes alone: n; NONE, and nothing happens, if it has not so many, or n is below 0");
        LoadRoad x = new LoadRoad();
        due("0 of none", x.end(0), 0);
        due("1 of none", x.end(1), -1);
        due("-1 of none", x.end(-1), -1);
        for (int n : new int[] {21, 22, 400, 401, MOST, -1, -2, LEAST}) {
            refused("end " + n + " of 20", () -> taped("road 2;stage 5      "), y -> y.end(n), -1);
        }
        x = taped("road 2;stage 5      ");
        due("20 of 20", x.end(20), 20);
        due("6 of 20", x.end(6), 6);
        due("7 of 6", x.end(7), -1);
        due("6 of 6", x.end(6), 6);
        due("has", x.count(13), 6);
        x.feed(0x20202020, 0x20202020, 0x20202020, 0x20202020, 0x20202020);
        due("what comes, comes behind these", x.count(13), 26);
        due("and the others are gone", x.road(), 0);
        due("no STAGE", x.count(1), 0);
        x = taped("road 2");
        due("0 of 6", x.end(0), 0);
        due("nothing is left", x.road(), fault(0, 0));
        x = taped(blanks(400));
        due("400 of 400", x.end(400), 400);
        due("401 of 400", x.end(401), -1);
        due("399 of 400", x.end(399), 399);
    }

    // ---- roads ----------------------------------------------------------------------------------

    private static void longestTexts() {
        says("A ROAD is a text of at most 400 bytes");
        roadIs(blanks(394) + "road 4", 0);
        roadIs("road 4" + blanks(394), 0);
        roadIs("road 1;person 20" + blanks(376) + ";stage 1", 1);
        roadFault(blanks(393) + "road 4;", 400, 0);
        roadFault(blanks(393) + "road 4x", 399, 0);
        roadFault(blanks(400), 400, 0);
        says("RULES 0 to 5: texts likewise");
        ruleIs(blanks(393) + "carry 1");
        ruleIs("carry" + blanks(394) + "1");
        ruleFault("carry 1" + blanks(392) + ";", 400, 0);
        ruleFault("carry 1" + blanks(392) + "!", 399, 0);
    }

    private static final String FULL = "road 4;" + many(8, "stage 60;") + many(4, "person 20;")
            + many(6, "thing 9 50;") + "has 0 0;has 0 1;has 0 2;has 0 3;has 3 4;has 3 5";

    private static void mostClauses() {
        says("CLAUSE { ; CLAUSE }, 40 at most");
        // 25 are all that can stand: whatever comes behind them is a FAULT of another kind
        roadIs(FULL, 4);
        int behind = FULL.length() + 1;
        roadFault(FULL + ";stage 1", behind, 4);
        roadFault(FULL + ";person 1", behind, 4);
        roadFault(FULL + ";thing 1 1", behind, 4);
        roadFault(FULL + ";road 4", behind, 4);
        roadFault(FULL + ";has 1 0", behind + 6, 1);
        roadFault(FULL + ";has 0 0", behind + 4, 1);
        roadIs("road 0", 0);
        roadFault("", 0, 0);
        roadFault(";road 0", 0, 0);
        roadFault("road 0;", 7, 0);
        roadFault("road 0;;stage 1", 7, 0);
    }

    private static void hands() {
        says("road NUMBER (HANDS 0 to 4, how many THINGS one can carry");
        for (int hands = 0; hands <= 4; hands++) {
            LoadRoad x = new LoadRoad();
            due("road " + hands, road(x, "road " + hands + ";person 1;" + many(5, "thing 0 0;") + "thing 0 0"), 1);
            due("HANDS", x.count(0), hands);
            for (int thing = 0; thing < 6; thing++) {
                due("HANDS " + hands + ", thing " + thing, x.take(0, thing), thing < hands ? thing + 1 : -1);
            }
        }
        roadFault("road 5", 5, 1);
        roadFault("road 10", 5, 1);
        roadFault("road 99999", 5, 1);
        roadFault("road -1", 5, 0);
    }

    private static void roadOnce() {
        says("once, the first CLAUSE");
        roadIs("road 1", 0);
        roadFault("road 1;road 1", 7, 4);
        roadFault("road 1;stage 1;road 1", 15, 4);
        roadFault("stage 1;road 1", 0, 4);
        roadFault("person 1;road 1", 0, 4);
        roadFault("thing 1 1;road 1", 0, 4);
        roadFault("has 0 0;road 1", 0, 4);
        roadFault("stage 1", 0, 4);
    }

    private static void furlongs() {
        says("stage NUMBER (FURLONGS 1 to 60)");
        for (int furlongs : new int[] {1, 2, 59, 60}) {
            LoadRoad x = on("road 0;stage " + furlongs + ";person 1");
            due("furlongs", x.stage(0), furlongs);
            due("days by 1", x.far(0, 0), furlongs);
        }
        roadFault("road 0;stage 0", 13, 1);
        roadFault("road 0;stage 00", 13, 1);
        roadFault("road 0;stage 61", 13, 1);
        roadFault("road 0;stage 99999", 13, 1);
        roadFault("road 0;stage -1", 13, 0);
    }

    private static void pace() {
        says("person NUMBER (PACE 1 to 20, furlongs a day)");
        for (int pace : new int[] {1, 2, 19, 20}) {
            LoadRoad x = on("road 0;stage 60;person " + pace);
            due("pace", x.person(0, 0), pace);
            x.day();
            due("gone on a day", x.person(0, 2), pace);
        }
        roadFault("road 0;person 0", 14, 1);
        roadFault("road 0;person 21", 14, 1);
        roadFault("road 0;person 99999", 14, 1);
        roadFault("road 0;person -1", 14, 0);
    }

    private static void weightAndWorth() {
        says("thing NUMBER NUMBER (WEIGHT 0 to 9; WORTH 0 to 50)");
        for (int weight : new int[] {0, 1, 8, 9}) {
            for (int worth : new int[] {0, 1, 49, 50}) {
                LoadRoad x = on("road 0;thing " + weight + " " + worth);
                due("weight", x.thing(0, 0), weight);
                due("worth", x.thing(0, 1), worth);
            }
        }
        roadFault("road 0;thing 10 0", 13, 1);
        roadFault("road 0;thing 99999 0", 13, 1);
        roadFault("road 0;thing 0 51", 15, 1);
        roadFault("road 0;thing 0 99999", 15, 1);
        roadFault("road 0;thing -1 0", 13, 0);
        roadFault("road 0;thing 0 -1", 15, 0);
        roadFault("road 0;thing 0", 14, 0);
        roadFault("road 0;thing", 12, 0);
    }

    private static void has() {
        says("has NUMBER NUMBER (a PERSON that was told, with fewer THINGS than HANDS so far");
        String two = "road 2;person 1;thing 0 0;thing 0 0;thing 0 0;";
        roadIs(two + "has 0 0;has 0 1", 1);
        roadFault(two + "has 0 0;has 0 1;has 0 2", 66, 1);
        roadFault("road 0;person 1;thing 0 0;has 0 0", 30, 1);
        roadFault("road 2;thing 0 0;has 0 0", 21, 1);
        roadFault("road 2;thing 0 0;has 0 0;person 1", 21, 1);
        roadFault(two + "has 1 0", 50, 1);
        roadFault(two + "has 4 0", 50, 1);
        roadFault(two + "has 99999 0", 50, 1);
        roadIs("road 1;" + many(4, "person 1;") + "thing 0 0;has 3 0", 4);
        roadFault("road 1;" + many(4, "person 1;") + "thing 0 0;has 4 0", 57, 1);
        roadFault("road 4;" + many(6, "thing 0 0;") + "has 0 0", 71, 1);
        roadFault("road 4;" + many(6, "thing 0 0;") + many(4, "person 1;") + "has 4 0", 107, 1);
        roadIs("road 1;person 1;thing 0 0;has 0 0;person 1;thing 0 0;has 1 1", 2);
        says("a THING that was told, that nobody has so far)");
        roadFault("road 2;person 1;has 0 0", 22, 1);
        roadFault("road 2;person 1;has 0 0;thing 0 0", 22, 1);
        roadIs(two + "has 0 2", 1);
        roadFault(two + "has 0 3", 52, 1);
        roadFault(two + "has 0 99999", 52, 1);
        roadFault(two + "has 0 0;has 0 0", 60, 1);
        roadFault("road 2;person 1;person 1;thing 0 0;has 0 0;has 1 0", 49, 1);
        roadIs("road 1;person 1;" + many(6, "thing 0 0;") + "has 0 5", 1);
        roadFault("road 1;person 1;" + many(6, "thing 0 0;") + "has 0 6", 82, 1);
    }

    private static void mostOfEach() {
        says("STAGES 0 to 7, PEOPLE 0 to 3, THINGS 0 to 5, in the order told");
        LoadRoad x = new LoadRoad();
        due("all", road(x, "road 4;stage 1;person 1;thing 1 11;stage 2;stage 3;thing 2 12;person 2;stage 4;stage 5;"
                + "thing 3 13;thing 4 14;person 3;stage 6;stage 7;thing 5 15;person 4;thing 6 16;stage 8"), 4);
        for (int i = 0; i < 8; i++) {
            due("stage " + i, x.stage(i), i + 1);
        }
        due("stage 8", x.stage(8), -1);
        for (int i = 0; i < 4; i++) {
            due("person " + i, x.person(i, 0), i + 1);
        }
        due("person 4", x.person(4, 0), -1);
        for (int i = 0; i < 6; i++) {
            due("weight " + i, x.thing(i, 0), i + 1);
            due("worth " + i, x.thing(i, 1), i + 11);
        }
        due("thing 6", x.thing(6, 0), -2);
        says("a ninth STAGE, a fifth PERSON, a seventh THING (at its first byte)");
        roadIs("road 0;" + many(7, "stage 1;") + "stage 1", 0);
        roadFault("road 0;" + many(8, "stage 1;") + "stage 1", 71, 4);
        roadIs("road 0;" + many(3, "person 1;") + "person 1", 4);
        roadFault("road 0;" + many(4, "person 1;") + "person 1", 43, 4);
        roadIs("road 0;" + many(5, "thing 0 0;") + "thing 0 0", 0);
        roadFault("road 0;" + many(6, "thing 0 0;") + "thing 0 0", 67, 4);
    }

    private static void places() {
        says("PLACES: 0, the gate, and one behind each STAGE; the last one is the TOWN (the gate itself without STAGES)");
        LoadRoad x = on("road 1;person 1;person 2;thing 0 7;thing 0 5;has 0 0");
        due("all are in the TOWN at once", x.count(7), 3);
        due("with all there is", x.count(8), 12);
        due("no later PLACE", x.had(0, 0, 1, 1, 0), -3);
        due("a NOTE of PLACE 0", x.note(0, 0, 0), 1);
        due("none of PLACE 1", x.note(0, 0, 1), -2);
        x = on("road 1;" + many(8, "stage 1;") + "person 1");
        due("PLACE 8", x.note(0, 0, 8), 1);
        due("no PLACE 9", x.note(0, 0, 9), -2);
        for (int i = 1; i <= 8; i++) {
            due("not in the TOWN", x.count(7), 0);
            x.day();
            due("PLACE", x.person(0, 1), i);
        }
        due("in the TOWN", x.count(7), 1);
        x.day();
        due("no further", x.person(0, 1), 8);
    }

    private static void begin() {
        says("It is DAY 0; all PEOPLE are at PLACE 0, where all THINGS lie that nobody has");
        LoadRoad x = on("road 1;stage 1;person 1");
        days(x, 3);
        road(x, FULL);
        due("DAY", x.count(6), 0);
        for (int p = 0; p < 4; p++) {
            due("PLACE", x.person(p, 1), 0);
            due("gone", x.person(p, 2), 0);
        }
        int[] where = {0, 0, 0, 0, 3, 3};
        for (int t = 0; t < 6; t++) {
            due("where " + t, x.thing(t, 2), where[t]);
        }
        road(x, "road 4;stage 3;person 1;" + many(5, "thing 0 0;") + "thing 0 0");
        for (int t = 0; t < 6; t++) {
            due("lies " + t, x.thing(t, 2), 10);
        }
        due("nobody has any", x.person(0, 3), 0);
    }

    // ---- rules ----------------------------------------------------------------------------------

    private static LoadRoad withRules(int n) {
        LoadRoad x = on("road 1;stage 9;person 1;thing 1 1");
        for (int i = 0; i < n; i++) {
            rule(x, "carry " + i);
        }
        return x;
    }

    private static void sixRules() {
        says("RULES 0 to 5");
        LoadRoad x = new LoadRoad();
        for (int i = 0; i < 6; i++) {
            due("rule " + i, rule(x, "carry " + i), i);
            due("how many", x.count(4), i + 1);
        }
        due("a seventh", rule(x, "carry 6"), -1);
        due("6 still", x.count(4), 6);
        for (int i = 0; i < 6; i++) {
            LoadRoad y = withRules(6);
            y.force(i);
            y.day();
            due("by rule " + i, y.thing(0, 2), i > 0 ? 0 : 10);
        }
    }

    private static void twelveClauses() {
        says("12 CLAUSES at most: carry SUM [ if TEST ]");
        ruleIs("carry 1");
        ruleIs(many(11, "carry 1;") + "carry 1");
        ruleFault(many(12, "carry 1;") + "carry 1", 96, 4);
        ruleFault(many(12, "carry 1;") + "   carry 1", 99, 4);
        ruleFault("", 0, 0);
        // the twelfth counts
        LoadRoad x = on("road 1;stage 9;person 1;thing 1 1", many(11, "carry 0 if 1=2;") + "carry 1");
        x.day();
        due("by the twelfth", x.thing(0, 2), 0);
    }

    private static void ifOrNot() {
        says("by the SUM of its first CLAUSE without a TEST, or whose TEST holds (0 without)");
        LoadRoad x = on("road 1;stage 9;person 1;thing 1 1;has 0 0", "carry 1 if 1=2");
        x.day();
        due("no CLAUSE holds", x.thing(0, 2), 10);
        x = on("road 1;stage 9;person 1;thing 1 1;has 0 0", "carry 1 if 1=2;carry 1;carry 0");
        x.day();
        due("the one without a TEST", x.thing(0, 2), 0);
        x = on("road 1;stage 9;person 1;thing 1 1;has 0 0", "carry 0;carry 1 if 1=1");
        x.day();
        due("the first, though a later TEST holds", x.thing(0, 2), 10);
        x = on("road 1;stage 9;person 1;thing 1 1;has 0 0", "carry 0 if 1=1;carry 1 if 1=1;carry 1");
        x.day();
        due("the first that holds", x.thing(0, 2), 10);
    }

    private static void ands() {
        says("TEST: PART { or PART }. PART: FACT { and FACT }. FACT: not FACT | [ TEST ]");
        so("1=1 or 1=2 and 1=2");
        so("1=2 and 1=2 or 1=1");
        so("not [1=2 or 1=1 and 1=2]");
        so("not [[1=1 or 1=2] and 1=2]");
        so("not 1=2 and 1=1");
        so("not [not 1=1 or 1=2]");
        so("not not not 1=2");
        so("[[1=1]]");
        so("1=2 or 1=2 or 1=2 or 1=1");
        so("not [1=1 and 1=1 and 1=1 and 1=2]");
    }

    private static void signs() {
        says("SUM SIGN SUM, SIGN one of < <= = >= >");
        String[] all = {"<", "<=", "=", ">=", ">"};
        boolean[][] due = {{true, true, false, false, false}, {false, true, true, true, false}, {false, false, false, true, true}};
        for (int left = 4; left <= 6; left++) {
            for (int i = 0; i < 5; i++) {
                boolean is = due[left - 4][i];
                String test = left + all[i] + "5";
                due("'" + test + "'", holds(test) ? 1 : 0, is ? 1 : 0);
            }
        }
        String[] so = {"4<5", "5<=5", "5=5", "5>=5", "6>5"};
        String[] not = {"5<5", "6<=5", "4=5", "4>=5", "5>5"};
        for (int i = 0; i < 5; i++) {
            for (int j = 0; j < 5; j++) {
                so(so[i] + " and " + so[j]);
                so("not [" + so[i] + " and " + not[j] + "]");
                so("not [" + not[i] + " and " + so[j] + "]");
                so(so[i] + " or " + not[j]);
                so(not[i] + " or " + so[j]);
                so("not [" + not[i] + " or " + not[j] + "]");
            }
        }
        so("0-1<0");
        so("0-1>=0-1");
        so("0-1<=0");
    }

    private static void sums() {
        says("SUM: TERM { (+ or -) TERM }. TERM: VALUE { (* or / or %) VALUE }");
        so("10-4-3=3");
        so("10-4+3=9");
        so("1+2*3=7");
        so("2*3+1=7");
        so("20/3*3=18");
        so("20*3/7=8");
        so("20%7*2=12");
        so("2*20%7=5");
        so("100/10/5=2");
        so("1-2*3+4=0-1");
    }

    private static void digits() {
        says("VALUE: NUMBER (1 to 5 digits, as far as digits go on) | WORD");
        so("7=00007");
        so("99999>99998");
        so("0=00000");
        so("12345=12344+1");
        ruleFault("carry 000000", 6, 1);
        ruleFault("carry 000001", 6, 1);
        ruleFault("carry 100000", 6, 1);
        ruleFault("carry 99999999999999999999999", 6, 1);
        ruleFault("carry 12 345", 9, 0);
        ruleFault("carry", 5, 0);
        roadIs("road 00004;stage 00060;person 00020;thing 00009 00050;has 00000 00000", 1);
        roadFault("road 000004", 5, 1);
        roadFault("road 0;stage 000001", 13, 1);
        roadFault("road 1;person 1;thing 0 0;has 000000 0", 30, 1);
        roadFault("road 1;person 1;thing 0 0;has 0 000000", 32, 1);
        roadFault("road 4294967296", 5, 1);
        roadFault("road 18446744073709551616", 5, 1);
    }

    private static void words() {
        says("WORDS (small letters, as far as these go on)");
        ruleIs("carry1if1<2and not[weight<2]or has=1;carry many");
        ruleFault("carry weights", 6, 0);
        ruleFault("carry weigh", 6, 0);
        ruleFault("carry Weight", 6, 0);
        ruleFault("carry weighT", 6, 0);
        ruleFault("carry weight1", 12, 0);
        ruleFault("carry wei ght", 6, 0);
        ruleFault("carryweight", 0, 0);
        ruleFault("carry 1 ifweight=1", 8, 0);
        ruleFault("carry 1 if notweight=1", 11, 0);
        ruleFault("carry 1 if 1=1 andnot 1=1", 15, 0);
        ruleFault("carry 1 if 1=1 orweight=1", 15, 0);
        ruleFault("carry a", 6, 0);
        ruleFault("carry z", 6, 0);
        ruleFault("carry hasa", 6, 0);
        ruleFault("carry hasz", 6, 0);
        roadIs("road1;stage1;person1;thing1 1;has0 0", 1);
        roadFault("roadstage 1", 0, 0);
        roadFault("road 1;stagea 1", 7, 0);
        roadFault("road 1;stagez 1", 7, 0);
        roadFault("road 1;stag 1", 7, 0);
        for (String word : "person thing weight worth has many load place left pace road day".split(" ")) {
            ruleIs("carry " + word);
            ruleFault("carry " + word + "x", 6, 0);
            ruleFault("carry " + word.substring(0, word.length() - 1), 6, 0);
        }
        for (String word : "carry if not and or stage furlongs hands town x gone".split(" ")) {
            ruleFault("carry " + word, 6, 0);
        }
    }

    /** Whether a TEST holds of the last THING of a ROAD, which lies at the gate, for its last PERSON. */
    private static boolean holdsOn(String road, String test) {
        LoadRoad x = on(road);
        int person = x.count(2) - 1;
        int thing = x.count(3) - 1;
        rule(x, "carry 1 if has=1;carry 1 if person=" + person + " and thing=" + thing + " and [" + test + "]");
        x.force(0);
        x.day();
        return x.thing(thing, 2) == person;
    }

    private static void soOn(String road, String test) {
        due("'" + test + "' holds on '" + road + "'", holdsOn(road, test) ? 1 : 0, 1);
        due("'not [" + test + "]' does not on '" + road + "'", holdsOn(road, "not [" + test + "]") ? 1 : 0, 0);
    }

    private static void wordsAtTheirEdges() {
        String least = "road 1;stage 1;person 1;thing 0 0";
        String most = "road 4;stage 60;" + many(7, "stage 1;") + many(3, "person 1;") + "person 20;"
                + many(5, "thing 9 50;") + "thing 9 50;has 3 0;has 3 1;has 3 2";
        says("has (1 if they have it, else 0), many (how many THINGS they have)");
        soOn(least, "has=0 and many=0");
        soOn(most, "has=0 and many=3 and person=3");
        LoadRoad x = on("road 4;stage 9;person 1;thing 9 50;has 0 0", "carry has*many");
        x.day();
        due("has 1, many 1", x.thing(0, 2), 0);
        says("load (WEIGHT of these, together)");
        soOn(least, "load=0");
        soOn(most, "load=27 and person=3");
        says("place, left (how many STAGES it is to the TOWN), pace, road (FURLONGS of the STAGE ahead), day");
        soOn(least, "place=0 and left=1 and pace=1 and road=1 and day=0");
        soOn(most, "place=0 and left=8 and pace=20 and road=60 and day=0 and person=3");
        // by 20 a day: 60 furlongs and no weight are 3 days, and each of the seven others one
        String way = "road 1;stage 60;stage 1;stage 2;stage 3;stage 4;stage 5;stage 6;stage 7;person 20;thing 0 0";
        for (int place = 1; place <= 7; place++) {
            LoadRoad y = on(way + ";has 0 0", "carry 1 if place=" + place + " and left=" + (8 - place)
                    + " and road=" + place + " and day=" + (place + 2));
            y.force(-1);
            days(y, place + 2);
            due("at PLACE", y.person(0, 1), place);
            y.force(0);
            y.day();
            due("its WORDS at PLACE " + place, y.thing(0, 2), 0);
        }
        says("person, thing, weight, worth");
        soOn(least, "person=0 and thing=0 and weight=0 and worth=0");
        soOn(most, "person=3 and thing=5 and weight=9 and worth=50");
    }

    private static void divisions() {
        says("/ is towards 0, % its rest, both 0 by 0");
        so("7/2=3");
        so("7%2=1");
        so("1/2=0");
        so("1%2=1");
        so("0/5=0");
        so("0%5=0");
        so("7/0=0");
        so("7%0=0");
        so("0/0=0");
        so("0%0=0");
        so("7/weight/0=0");
        so("9+7/0*5=9");
        so("99999/99999=1");
        so("99998/99999=0");
        // 2 to the 63rd is the lowest of all: by 3 it is not whole, and its rest is below 0
        String lowest = "32768*32768*32768*32768*8";
        so(lowest + "/3*3>" + lowest);
        so(lowest + "/3*3-2=" + lowest);
        so(lowest + "%3=0-2");
        so(lowest + "/1=" + lowest);
        so(lowest + "%1=0");
        so(lowest + "/0=0");
        so(lowest + "%0=0");
    }

    private static void sixtyFourBits() {
        says("all goes round in 64 bits");
        String lowest = "32768*32768*32768*32768*8";
        so(lowest + "<0");
        so(lowest + "-1>0");
        so("0-" + lowest + "=" + lowest);
        so("32768*32768*32768*32768*4>0");
        so("32768*32768*32768*32768*16=0");
        so("65536*65536*65536*65536=0");
        so("65536*65536*65536*65536+1=1");
        so(lowest + "+" + lowest + "=0");
        so("65536*65536>0");
        so("65536*32768>0");
        so("65536*32768-1=65535*32768+32767");
        due("2 to the 63rd is below 0", isAbove(lowest) ? 1 : 0, 0);
        due("one less is above 0", isAbove(lowest + "-1") ? 1 : 0, 1);
        due("2 to the 64th is 0", isAbove("65536*65536*65536*65536") ? 1 : 0, 0);
        due("one more is above 0", isAbove("65536*65536*65536*65536+1") ? 1 : 0, 1);
        due("2 to the 31st is above 0", isAbove("65536*32768") ? 1 : 0, 1);
        due("2 to the 32nd is above 0", isAbove("65536*65536") ? 1 : 0, 1);
        due("2 to the 62nd is above 0", isAbove("32768*32768*32768*32768*4") ? 1 : 0, 1);
    }

    private static void blankPlaces() {
        says("Blanks (32) stand between as one likes");
        roadIs("road1;stage1;person1;thing0 0;has0 0", 1);
        roadIs("  road  1  ;  stage  1  ;  person  1  ;  thing  0  0  ;  has  0  0  ", 1);
        ruleIs("carry1+2*3if not[1<2or 2>=3]and 1=1;carry1");
        ruleIs("  carry  1  +  2  *  3  if  not  [  1  <  2  or  2  >=  3  ]  and  1  =  1  ;  carry  1  ");
        roadFault("ro ad 1", 0, 0);
        roadFault("road 1;thing 1 0 0", 17, 0);
        ruleFault("car ry 1", 0, 0);
        ruleFault("carry 1 if 1 < = 2", 15, 0);
        ruleFault("carry 1 if 1 > = 2", 15, 0);
        for (int sign : new int[] {0, 9, 10, 13, 31, 33, 160, 255}) {
            roadFault("road " + (char) sign + "1", 5, 0);
            roadFault("road 1" + (char) sign, 6, 0);
            ruleFault("carry " + (char) sign + "1", 6, 0);
        }
    }

    private static void deep() {
        says("[ and not lie within one another 10 deep at most");
        String from = "carry 1 if ";
        ruleIs(from + many(10, "[") + "1=1" + many(10, "]"));
        ruleIs(from + many(10, "not ") + "1=1");
        ruleIs(from + many(5, "[not ") + "1=1" + many(5, "]"));
        ruleIs(from + many(9, "not ") + "[1=1]");
        ruleIs(from + many(9, "[") + "not 1=1" + many(9, "]"));
        // beside one another they are as deep as they were
        ruleIs(from + many(10, "[") + "1=1" + many(10, "]") + " and " + many(10, "not ") + "1=1 or "
                + many(10, "[") + "1=1" + many(10, "]"));
        ruleIs(from + many(9, "[") + "[1=1] and [1=1] or not 1=1" + many(9, "]"));
        ruleIs(many(5, from + many(10, "not ") + "1=1;") + "carry 1");
        due("ten [ of what holds", holds(many(10, "[") + "1=1" + many(10, "]")) ? 1 : 0, 1);
        due("ten [ of what does not", holds(many(10, "[") + "1=2" + many(10, "]")) ? 1 : 0, 0);
        due("ten times not", holds(many(10, "not ") + "1=1") ? 1 : 0, 1);
        due("nine times not", holds(many(9, "not ") + "1=1") ? 1 : 0, 0);
        ruleFault(from + many(9, "[") + "[1=1] and [[1=1]]", 31, 2);
    }

    private static void sixty() {
        says("at most 60 VALUES (of SUMS) and FACTS made of a SIGN, together");
        ruleIs("carry 1" + many(59, "+1"));
        ruleIs("carry 1" + many(56, "+1") + " if 1=1");
        ruleIs("carry 1 if 1=1" + many(18, " or 1=1") + "+1+1");
        ruleIs("carry 1" + many(29, "+1") + ";carry 1" + many(29, "+1"));
        // [ and not, and and or are not counted
        ruleIs("carry 1" + many(56, "+1") + " if not [not [1=1]]");
        ruleIs("carry 1+1+1 if not [1=1]" + many(18, " and [1=1]"));
        says("one VALUE or FACT too many (at its first byte; of a FACT at its SIGN)");
        ruleFault("carry 1" + many(60, "+1"), 126, 3);
        ruleFault("carry 1" + many(59, "+1") + " + weight", 128, 3);
        ruleFault("carry 1" + many(59, "+1") + ";carry 1", 132, 3);
        ruleFault("carry 1" + many(59, "+1") + " if 1=1", 129, 3);
        ruleFault("carry 1" + many(58, "+1") + " if 1 = 1", 129, 3);
        ruleFault("carry 1" + many(58, "+1") + " if 1 >= 1", 129, 3);
        ruleFault("carry 1" + many(57, "+1") + " if 1=1", 127, 3);
        ruleFault("carry 1" + many(29, "+1") + ";carry 1" + many(30, "+1"), 132, 3);
        ruleFault("carry 1 if 1=1" + many(18, " or 1=1") + "+1+1+1", 145, 3);
        // the count is of a text, not of all texts
        LoadRoad x = new LoadRoad();
        for (int i = 0; i < 6; i++) {
            due("60 anew", rule(x, "carry 1" + many(59, "+1")), i);
        }
        x = new LoadRoad();
        due("61", rule(x, "carry 1" + many(60, "+1")), fault(126, 3));
        due("60 behind 61", rule(x, "carry 1" + many(59, "+1")), 0);
    }

    // ---- faults ---------------------------------------------------------------------------------

    private static void faultFirst() {
        says("FAULTS, the first along the text, 1 + 8 * its place and");
        due("place 0, kind 0", road(""), -3);
        due("place 0, kind 4", road("stage 1"), -7);
        due("place 5, kind 1", road("road 5"), -44);
        roadFault("road 5;road 5", 5, 1);
        roadFault("road 1;stage 0;stage", 13, 1);
        roadFault("road 1;road 1;stage 0", 7, 4);
        roadFault("road 1 1;road 1", 7, 0);
        roadFault("road 1;has 0 0;road 9", 11, 1);
        ruleFault("carry 100000 if", 6, 1);
        ruleFault("carry if 100000", 6, 0);
        ruleFault("carry 1 if " + many(11, "[") + "100000", 21, 2);
        ruleFault("carry 100000 if " + many(11, "["), 6, 1);
        ruleFault("carry 1" + many(60, "+1") + "+100000", 126, 3);
        ruleFault("carry 1" + many(58, "+1") + "+100000+1+1", 124, 1);
        ruleFault(many(11, "carry 1;") + "carry;carry 1", 93, 0);
        ruleFault(many(12, "carry 1;") + "carry 100000", 96, 4);
    }

    private static void faultMisplaced() {
        says("0 a byte or WORD that can't stand there");
        roadFault("way 1", 0, 0);
        roadFault("road one", 5, 0);
        roadFault("road road", 5, 0);
        roadFault("road 1 stage 1", 7, 0);
        roadFault("road 1 2", 7, 0);
        roadFault("road 1;stage stage", 13, 0);
        roadFault("road 1;stage 1 1", 15, 0);
        roadFault("road 1;person 1 1", 16, 0);
        roadFault("road 1;thing 1 1 1", 17, 0);
        roadFault("road 1;thing 1;", 14, 0);
        roadFault("road 1;thing 1 thing", 15, 0);
        roadFault("road 1;person 1;thing 0 0;has 0;", 31, 0);
        roadFault("road 1;person 1;thing 0 0;has 0 0 0", 34, 0);
        roadFault("road 1;person 1;thing 0 0;has person", 30, 0);
        roadFault("road 1;carry 1", 7, 0);
        roadFault("road 1;7", 7, 0);
        roadFault("road 1+1", 6, 0);
        ruleFault("road 1", 0, 0);
        ruleFault("1", 0, 0);
        ruleFault("carry carry", 6, 0);
        ruleFault("carry (1)", 6, 0);
        ruleFault("carry [1]", 6, 0);
        ruleFault("carry +1", 6, 0);
        ruleFault("carry 1++1", 8, 0);
        ruleFault("carry 1+;", 8, 0);
        ruleFault("carry 1 2", 8, 0);
        ruleFault("carry 1 weight", 8, 0);
        ruleFault("carry weight worth", 13, 0);
        ruleFault("carry 1 and 1", 8, 0);
        ruleFault("carry 1 not", 8, 0);
        ruleFault("carry 1 carry 1", 8, 0);
        ruleFault("carry 1<2", 7, 0);
        ruleFault("carry 1 if ;", 11, 0);
        ruleFault("carry 1 if if", 11, 0);
        ruleFault("carry 1 if and 1=1", 11, 0);
        ruleFault("carry 1 if not and", 15, 0);
        ruleFault("carry 1 if not ]", 15, 0);
        ruleFault("carry 1 if 1", 12, 0);
        ruleFault("carry 1 if 1 1", 13, 0);
        ruleFault("carry 1 if 1;", 12, 0);
        ruleFault("carry 1 if 1]", 12, 0);
        ruleFault("carry 1 if 1 and 1=1", 13, 0);
        ruleFault("carry 1 if 1=[1]", 13, 0);
        ruleFault("carry 1 if 1=not 1", 13, 0);
        ruleFault("carry 1 if 1==1", 13, 0);
        ruleFault("carry 1 if 1=<1", 13, 0);
        ruleFault("carry 1 if 1=>1", 13, 0);
        ruleFault("carry 1 if 1<>1", 13, 0);
        ruleFault("carry 1 if 1<==1", 14, 0);
        ruleFault("carry 1 if 1<<1", 13, 0);
        ruleFault("carry 1 if 1=1=1", 14, 0);
        ruleFault("carry 1 if 1=1]", 14, 0);
        ruleFault("carry 1 if 1=1 not 1=1", 15, 0);
        ruleFault("carry 1 if 1=1 [1=1]", 15, 0);
        ruleFault("carry 1 if [1=1;carry 1]", 15, 0);
        ruleFault("carry 1 if [1=1 if 1=1]", 16, 0);
        ruleFault("carry 1 if [1=1]]", 16, 0);
        ruleFault("carry 1 if [1=1]=1", 16, 0);
        ruleFault("carry 1 if []", 12, 0);
        ruleFault("carry 1 if [1+1]=2", 15, 0);
        ruleFault("carry 1 if 1=1 if 1=1", 15, 0);
        ruleFault("carry 1 if 1=1 or ;", 18, 0);
        ruleFault("carry 1;;", 8, 0);
        ruleFault("carry 1;if 1=1", 8, 0);
    }

    /** Each byte, but those that can stand there (or make another WORD or NUMBER), put at the @. */
    private static void noOtherByte(boolean isRoad, String text, String can) {
        int at = text.indexOf('@');
        for (char sign = 0; sign < 256; sign++) {
            if (can.indexOf(sign) < 0) {
                String told = text.replace('@', sign);
                int got = isRoad ? road(told) : rule(told);
                due((isRoad ? "road '" : "rule '") + text + "' with byte " + (int) sign, got, fault(at, 0));
            }
        }
    }

    private static final String DIGITS = "0123456789";
    private static final String LETTERS = "abcdefghijklmnopqrstuvwxyz";

    private static void faultMisplacedBytes() {
        says("0 a byte or WORD that can't stand there, or the end");
        noOtherByte(true, "@", " ");
        noOtherByte(true, "@ road 1", " ");
        noOtherByte(true, "road@ 1", " " + DIGITS + LETTERS);
        noOtherByte(true, "road @", " " + DIGITS);
        noOtherByte(true, "road 1@", " " + DIGITS + ";");
        noOtherByte(true, "road 1 @", " ;");
        noOtherByte(true, "road 1;@", " ");
        noOtherByte(true, "road 1;stage @", " " + DIGITS);
        noOtherByte(true, "road 1;stage 1@", " " + DIGITS + ";");
        noOtherByte(true, "road 1;person @", " " + DIGITS);
        noOtherByte(true, "road 1;thing @ 1", " " + DIGITS);
        noOtherByte(true, "road 1;thing 1@1", " " + DIGITS);
        noOtherByte(true, "road 1;thing 1 @", " " + DIGITS);
        noOtherByte(true, "road 1;person 1;thing 1 1;has @ 0", " " + DIGITS);
        noOtherByte(true, "road 1;person 1;thing 1 1;has 0@0", " " + DIGITS);
        noOtherByte(true, "road 1;person 1;thing 1 1;has 0 0@", " " + DIGITS + ";");
        noOtherByte(false, "@", " ");
        noOtherByte(false, "carry@ 1", " " + DIGITS + LETTERS);
        noOtherByte(false, "carry @", " " + DIGITS);
        noOtherByte(false, "carry 1@", " ;+-*/%" + DIGITS);
        noOtherByte(false, "carry 1 @ 1", " ;+-*/%");
        noOtherByte(false, "carry 1+@", " " + DIGITS);
        noOtherByte(false, "carry 1*@", " " + DIGITS);
        noOtherByte(false, "carry 1 if@1=1", " [" + DIGITS + LETTERS);
        noOtherByte(false, "carry 1 if @", " [" + DIGITS);
        noOtherByte(false, "carry 1 if 1 @ 1=1", " +-*/%<=>");
        noOtherByte(false, "carry 1 if 1<@", " =" + DIGITS);
        noOtherByte(false, "carry 1 if 1<=@", " " + DIGITS);
        noOtherByte(false, "carry 1 if 1=@", " " + DIGITS);
        noOtherByte(false, "carry 1 if 1=1 @", " ;+-*/%");
        noOtherByte(false, "carry 1 if [1=1 @", " ]+-*/%");
        noOtherByte(false, "carry 1 if [1=1]@", " ;");
        noOtherByte(false, "carry 1 if not @", " [" + DIGITS);
        noOtherByte(false, "carry 1 if 1=1 and @", " [" + DIGITS);
        noOtherByte(false, "carry 1;@", " ");
    }

    private static void faultEnd() {
        says("or the end (behind the last byte)");
        for (String text : new String[] {"", "road", "road 1;", "road 1;stage", "road 1;person", "road 1;thing",
            "road 1;thing 1", "road 1;person 1;thing 1 1;has", "road 1;person 1;thing 1 1;has 0"}) {
            roadFault(text, text.length(), 0);
            roadFault(text + "   ", text.length() + 3, 0);
        }
        for (String text : new String[] {"", "carry", "carry 1+", "carry 1-", "carry 1*", "carry 1/", "carry 1%",
            "carry 1 if", "carry 1 if not", "carry 1 if [", "carry 1 if 1", "carry 1 if 1+", "carry 1 if 1<",
            "carry 1 if 1<=", "carry 1 if 1=", "carry 1 if 1=1 and", "carry 1 if 1=1 or", "carry 1 if [1=1",
            "carry 1 if [[1=1]", "carry 1;"}) {
            ruleFault(text, text.length(), 0);
            ruleFault(text + "   ", text.length() + 3, 0);
        }
    }

    private static void faultNumber() {
        says("1 a NUMBER of more digits, or not as told");
        roadFault("road    5", 8, 1);
        roadFault("road5", 4, 1);
        roadFault("road 1;thing 1 000000", 15, 1);
        roadFault("road 1;thing 000000 1", 13, 1);
        roadFault("road 1;person 000001", 14, 1);
        roadFault("road 123456x", 5, 1);
        ruleFault("carry 1 if 1=1 and 123456<2", 19, 1);
        ruleFault("carry 1 if 1<123456", 13, 1);
        ruleFault("carry 1+123456", 8, 1);
        ruleFault("carry 123456x", 6, 1);
        ruleIs("carry 99999");
    }

    private static void faultDeep() {
        says("2 too deep (at the sign that opens, or the word not)");
        String from = "carry 1 if ";
        ruleFault(from + many(11, "[") + "1=1" + many(11, "]"), 21, 2);
        ruleFault(from + many(10, "[ ") + "  [", 33, 2);
        ruleFault(from + many(11, "not ") + "1=1", 51, 2);
        ruleFault(from + many(10, "not ") + "[1=1]", 51, 2);
        ruleFault(from + many(10, "[") + "not 1=1" + many(10, "]"), 21, 2);
        ruleFault(from + many(5, "[not ") + "[1=1]" + many(5, "]"), 36, 2);
        ruleFault(from + many(10, "[") + "1=1 and [1=1]" + many(10, "]"), 29, 2);
        ruleFault(from + many(10, "[") + "1=1 or not 1=1" + many(10, "]"), 28, 2);
        ruleFault(from + many(11, "["), 21, 2);
        ruleFault(from + many(10, "not ") + "not", 51, 2);
        ruleFault(from + "1=1 and " + many(11, "["), 29, 2);
        ruleFault("carry 1;" + from + many(11, "["), 29, 2);
        ruleFault(from + many(389, "["), 21, 2);
        ruleFault(from + many(97, "not "), 51, 2);
    }

    private static void faultTooLong() {
        says("3 one VALUE or FACT too many");
        ruleFault("carry 1" + many(59, "+1") + "+     1", 131, 3);
        ruleFault("carry 1" + many(59, "+1") + "*12345", 126, 3);
        ruleIs("carry weight" + many(42, "+weight") + many(17, "+1"));
        ruleFault("carry weight" + many(42, "+weight") + many(18, "+1"), 341, 3);
        ruleFault("carry 1 if 1=1" + many(19, " and 1=1"), 165, 3);
        ruleFault("carry 1 if 1=1" + many(18, " and 1=1") + "+1 and 1=1", 166, 3);
    }

    private static void faultTooMany() {
        says("4 one CLAUSE too many, a second road, another CLAUSE ahead of it");
        ruleFault(many(12, "carry 1;") + "carry 1;carry 1", 96, 4);
        ruleFault(many(11, "carry 1;") + "carry 1  ;  carry", 100, 4);
        roadFault("road 1;   road 1", 10, 4);
        roadFault("road 1;road", 7, 4);
        roadFault("  stage 1", 2, 4);
        roadFault("stage", 0, 4);
        roadFault("has", 0, 4);
        roadFault("road 1;" + many(8, "stage 1;") + "stage", 71, 4);
        roadFault("road 1;" + many(4, "person 1;") + "person 99", 43, 4);
        roadFault("road 1;" + many(6, "thing 1 1;") + "thing", 67, 4);
    }

    private static void faultLeast() {
        says("Of one place the least");
        ruleFault(many(12, "carry 1;") + "carr 1", 96, 0);
        ruleFault(many(12, "carry 1;") + ";", 96, 0);
        ruleFault(many(12, "carry 1;"), 96, 0);
        ruleFault("carry 1" + many(59, "+1") + "+123456", 126, 1);
        ruleFault("carry 1" + many(59, "+1") + "+weights", 126, 0);
        ruleFault("carry 1" + many(59, "+1") + "+", 126, 0);
        ruleFault("carry 1" + many(58, "+1") + " if 1 ; 1", 129, 0);
        ruleFault("carry 1" + many(58, "+1") + " if 1 ", 129, 0);
        ruleFault("carry 1 if " + many(10, "not ") + "nots 1=1", 51, 0);
        ruleFault("carry 1 if " + many(10, "[") + "]", 21, 0);
        roadFault("road 1;" + many(8, "stage 1;") + "stages 1", 71, 0);
        roadFault("road 1;" + many(4, "person 1;") + "persons 1", 43, 0);
        roadFault("road 1;" + many(6, "thing 1 1;") + "things 1 1", 67, 0);
        roadFault("road 1;roads 1", 7, 0);
        roadFault("stages 1;road 1", 0, 0);
    }

    // ---- the calls road, rule, force --------------------------------------------------------------

    /** Much has happened: RULES, one IN FORCE, DAYS, ACTS, NOTES, x, IMAGES, and an empty TAPE. */
    private static LoadRoad busy() {
        LoadRoad x = on("road 2;stage 4;stage 6;person 1;person 2;thing 3 7;thing 0 5;thing 0 2;has 0 0;has 1 1",
                "carry has", "carry 1 if place=0");
        x.image(0);
        x.seed(77);
        x.note(3, 1, 1);
        x.note(4, 0, 0);
        days(x, 2);
        x.drop(1, 1);
        x.rob(2);
        x.image(2);
        x.take(1, 1);
        return x;
    }

    private static void roadCall() {
        says("how many PEOPLE; -2 - its FAULT, and all stays");
        for (int people = 0; people <= 4; people++) {
            roadIs("road 1" + many(people, ";person 3"), people);
        }
        String[] faults = {"", "road", "road 5", "road 1;road 1", "road 0;person 1;person 1;thing 1 1;stage 2;stage 61",
            "road 3;stage 9;person 9;thing 9 9;has 0 0;", "carry 1", many(20, "road 1 stage 2 ") + blanks(100)};
        for (String text : faults) {
            LoadRoad x = busy();
            int got = road(x, text);
            must("'" + text + "'", got <= -3, "" + got);
            same("a FAULT of '" + text + "'", x, busy());
        }
        says("The TAPE, which is empty then, is the ROAD");
        LoadRoad x = busy();
        put(x, "road 1");
        due("before", x.count(13), 6);
        x.road();
        due("behind a ROAD", x.count(13), 0);
        put(x, "road 5");
        x.road();
        due("behind a FAULT", x.count(13), 0);
        due("an empty one", x.road(), fault(0, 0));
    }

    private static void roadCallAnother() {
        says("in place of the one there was (no NOTES, nothing to be UNDONE; the RULE IN FORCE and x stay)");
        LoadRoad x = busy();
        due("another", road(x, "road 0"), 0);
        int[] want = {0, 0, 0, 0, 2, 0, 0, 0, 0, 0, 0, 0, 77, 0};
        for (int i = 0; i < want.length; i++) {
            due("count " + i, x.count(i), want[i]);
        }
        due("nothing to be UNDONE", x.undo(), -2);
        due("nobody", x.person(0, 0), -1);
        due("no THING", x.thing(0, 0), -2);
        due("no STAGE", x.stage(0), -1);
        due("an IMAGE of before", x.back(2), 2);
        due("its PEOPLE", x.count(2), 2);
        due("a GONE one is not GONE on the next ROAD", road(x, "road 1;thing 1 1;thing 1 1;thing 1 1") + x.thing(2, 2), 10);
    }

    private static LoadRoad sixAnd(String text) {
        LoadRoad x = withRules(6);
        x.force(3);
        x.day();
        put(x, text);
        return x;
    }

    private static void ruleCall() {
        says("its number; -2 - its FAULT; NONE, and nothing happens: there are 6");
        refused("a seventh", () -> sixAnd("carry 1"), LoadRoad::rule, -1);
        refused("a seventh with a FAULT", () -> sixAnd("carry"), LoadRoad::rule, -1);
        refused("a seventh of nothing", () -> sixAnd(""), LoadRoad::rule, -1);
        refused("a seventh that is a ROAD", () -> sixAnd("road 2;stage 5"), LoadRoad::rule, -1);
        LoadRoad x = sixAnd("road 2;stage 5");
        x.rule();
        due("the TAPE is as it was", x.count(13), 14);
        due("and is a ROAD", x.road(), 0);
        for (String text : new String[] {"", "carry", "carry 100000", "carry 1 if " + many(11, "["),
            "carry 1" + many(60, "+1"), many(12, "carry 1;") + "carry 1"}) {
            LoadRoad y = busy();
            int got = rule(y, text);
            must("'" + text + "'", got <= -3, "" + got);
            same("a FAULT of '" + text + "'", y, busy());
        }
        says("The TAPE, which is empty then, is a RULE");
        x = busy();
        due("a RULE", rule(x, "carry 7"), 2);
        due("the TAPE behind it", x.count(13), 0);
        due("an empty one is none", x.rule(), fault(0, 0));
        x = busy();
        due("a FAULT is no RULE", rule(x, "carry 1;carry"), fault(13, 0));
        due("so the next one has its number", rule(x, "carry 0"), 2);
        due("and the TAPE is empty then", x.count(13), 0);
        x.force(2);
        road(x, "road 1;stage 9;person 1;thing 1 1;has 0 0");
        x.day();
        due("and is its own text alone", x.thing(0, 2), 10);
        x.force(0);
        due("RULES", x.count(4), 3);
        due("the RULE IN FORCE stays", x.count(5), 0);
    }

    private static void forceCall() {
        says("A RULE is IN FORCE (NONE: none): which was; -2, and nothing happens, if there is none such");
        for (int rule : new int[] {2, 3, 5, 6, MOST, -2, -3, LEAST}) {
            refused("force " + rule, TextEdges::busy, x -> x.force(rule), -2);
        }
        LoadRoad x = busy();
        due("to none", x.force(-1), 0);
        due("from none", x.force(1), -1);
        due("the same again", x.force(1), 1);
        due("to 0", x.force(0), 1);
        x = new LoadRoad();
        due("none of none", x.force(-1), -1);
        due("0 of none", x.force(0), -2);
        due("-2 of none", x.force(-2), -2);
        x = withRules(6);
        due("the sixth", x.force(5), -1);
        due("a seventh", x.force(6), -2);
        due("the sixth is", x.force(-1), 5);
    }
}
