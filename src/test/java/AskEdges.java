import java.math.BigInteger;
import java.util.function.ToIntFunction;

/** The boundary cases of what is asked, of NOTES, x and IMAGES; section III, promises 16 to 33. */
public final class AskEdges extends Bench {

    public static void main(String[] args) {
        nothingChanges();
        aheadDays();
        aheadCall();
        comesDays();
        comesCall();
        wealthDays();
        wealthCall();
        farSets();
        farCall();
        loadDays();
        loadTies();
        loadCall();
        hadSets();
        hadCall();
        exchangeTies();
        exchangeCall();
        robbedTies();
        robbedCall();
        gamePasses();
        gameTies();
        gameBounds();
        gameCall();
        penceParts();
        penceCall();
        noteCall();
        ruledNotes();
        ruledCall();
        lookTies();
        lookCall();
        draws();
        seedCall();
        thievesDraws();
        thievesThings();
        thievesCall();
        countCall();
        countBounds();
        imageCall();
        backCall();
        finish();
    }

    /**
     * DAY 2, HANDS 2: person 0 is between the gate and PLACE 1, with thing 0; 1 and 3 are at PLACE 1,
     * 1 with things 1; 2 is in the TOWN, with thing 2. Thing 3 is GONE, 4 lies at PLACE 1, 5 in the
     * TOWN. Five ACTS, two IMAGES, NOTES, RULES, bytes of a TAPE.
     */
    private static LoadRoad mixed() {
        LoadRoad x = on("road 2;stage 4;stage 6;person 1;person 2;person 6;person 2;"
                + "thing 3 10;thing 0 20;thing 0 30;thing 9 40;thing 0 5;thing 0 7;"
                + "has 0 0;has 1 1;has 2 2;has 3 4;has 2 5", "carry has", "carry 1");
        x.seed(12);
        x.note(2, 1, 1);
        x.image(1);
        days(x, 2);
        x.drop(3, 4);
        x.drop(2, 5);
        x.rob(3);
        x.image(3);
        x.feed(0x726f6164, 0x20332020, 0x20202020, 0x20202020, 0x20202020);
        return x;
    }

    private static void mixedRefuses(String what, ToIntFunction<LoadRoad> call, int want) {
        refused(what, AskEdges::mixed, call, want);
    }

    private static void nothingChanges() {
        says("(By what is asked nothing changes");
        LoadRoad x = mixed();
        for (int i = 0; i < 6; i++) {
            x.person(i, 3);
            x.thing(i, 2);
            x.stage(i);
            x.ahead(i, 100, 0);
            x.ahead(i, 100, 2);
            x.comes(i);
            x.wealth(100);
            x.far(i, 3);
            x.load(i, 60, 0);
            x.had(i, 0, 2, 9, 0);
            x.robbed(60, i);
            x.pence(999, i);
            x.ruled(i);
            x.look(60, i);
            x.thieves(10, 60, 100, i);
            x.count(i);
            for (int j = 0; j < 4; j++) {
                x.exchange(i, j, 0);
                x.game(i, j, 0);
            }
        }
        same("all that can be asked", x, mixed());
    }

    // ---- how it goes on ---------------------------------------------------------------------------

    private static void aheadDays() {
        says("AHEAD n DAYS (0 to 100): the PLACE of a PERSON (the last one they were at); how far they have gone from it;"
                + " where a THING is");
        // 60 furlongs and 39 by 1 a day: there after 99 DAYS; 60 and 40: after 100
        LoadRoad x = on("road 1;stage 60;stage 39;stage 60;person 1;thing 0 1;has 0 0", "carry 1 if place<2");
        due("in 59", x.ahead(0, 59, 0), 0);
        due("how far in 59", x.ahead(0, 59, 1), 59);
        due("in 60", x.ahead(0, 60, 0), 1);
        due("how far in 60", x.ahead(0, 60, 1), 0);
        due("in 98", x.ahead(0, 98, 0), 1);
        due("in 99", x.ahead(0, 99, 0), 2);
        due("had in 99", x.ahead(0, 99, 2), 0);
        due("left in 100", x.ahead(0, 100, 2), 12);
        due("how far in 100", x.ahead(0, 100, 1), 1);
        due("now", x.ahead(0, 0, 0), 0);
        due("how far now", x.ahead(0, 0, 1), 0);
        due("where now", x.ahead(0, 0, 2), 0);
        x.rob(0);
        due("GONE", x.ahead(0, 100, 2), -1);
        x.day();
        due("how far now, on the way", x.ahead(0, 0, 1), 1);
    }

    private static void aheadCall() {
        says("AHEAD what 0: PLACE, 1: how far, of the PERSON, 2: where, as told of it, of the THING of that number."
                + " -2 without these");
        for (int n : outside(0, 100)) {
            mixedRefuses("n " + n, x -> x.ahead(0, n, 0), -2);
            mixedRefuses("n " + n, x -> x.ahead(0, n, 2), -2);
        }
        for (int what : outside(0, 2)) {
            mixedRefuses("what " + what, x -> x.ahead(0, 1, what), -2);
        }
        for (int p : outside(0, 3)) {
            mixedRefuses("person " + p, x -> x.ahead(p, 0, 0), -2);
            mixedRefuses("person " + p, x -> x.ahead(p, 0, 1), -2);
        }
        for (int t : outside(0, 5)) {
            mixedRefuses("thing " + t, x -> x.ahead(t, 0, 2), -2);
        }
        LoadRoad x = mixed();
        due("thing 4, though there is no person 4", x.ahead(4, 0, 2), 11);
        due("person 4, though there is a thing 4", x.ahead(4, 0, 0), -2);
        LoadRoad y = on("road 1;stage 1;person 1;person 1;thing 1 1");
        due("person 1, though there is no thing 1", y.ahead(1, 0, 0), 0);
        due("thing 1, though there is a person 1", y.ahead(1, 0, 2), -2);
        due("no ROAD", new LoadRoad().ahead(0, 0, 0), -2);
        due("no ROAD", new LoadRoad().ahead(0, 0, 2), -2);
        asks("a PLACE", AskEdges::mixed, z -> z.ahead(1, 100, 0), 2);
    }

    private static void comesDays() {
        says("COMES of a PERSON: the first DAY, this one the first, of 200, at whose begin they are in the TOWN");
        due("at once", on("road 0;person 1").comes(0), 0);
        due("on the next", on("road 0;stage 1;person 1").comes(0), 1);
        LoadRoad x = on("road 0;stage 60;stage 60;stage 60;stage 19;person 1");
        due("on the last of 200", x.comes(0), 199);
        x.day();
        due("a DAY later", x.comes(0), 199);
        x = on("road 0;stage 60;stage 60;stage 60;stage 20;person 1");
        due("one DAY too late", x.comes(0), -2);
        due("the first of these", x.day(), 0);
        due("a DAY later it is the last of 200", x.comes(0), 200);
        x.undo();
        due("undone it is too late again", x.comes(0), -2);
        x = on("road 0;stage 3;person 1");
        days(x, 3);
        due("who has come is there on this DAY", x.comes(0), 3);
        days(x, 4);
        due("and on a later one", x.comes(0), 7);
    }

    private static void comesCall() {
        says("COMES; -2: at none of these; NONE without that PERSON");
        for (int p : outside(0, 3)) {
            mixedRefuses("person " + p, x -> x.comes(p), -1);
        }
        due("nobody", on("road 0").comes(0), -1);
        due("no ROAD", new LoadRoad().comes(0), -1);
        asks("at none", () -> on("road 0;" + many(7, "stage 60;") + "stage 60;person 1"), x -> x.comes(0), -2);
        asks("person 2 is there", AskEdges::mixed, x -> x.comes(2), 2);
        asks("person 3, 6 by 2 a day", AskEdges::mixed, x -> x.comes(3), 5);
    }

    private static void wealthDays() {
        says("WEALTH for n DAYS (0 to 100): the WORTH of all THINGS that are in the TOWN then (lie there, or are had by who is there)");
        LoadRoad x = on("road 1;stage 60;stage 40;person 1;thing 0 50;has 0 0");
        due("in 99", x.wealth(99), 0);
        due("in 100", x.wealth(100), 50);
        due("now", x.wealth(0), 0);
        LoadRoad y = mixed();
        due("lies there, and is had there", y.wealth(0), 37);
        y.rob(5);
        due("had there", y.wealth(0), 30);
        y.drop(2, 2);
        due("lies there", y.wealth(0), 30);
        y.rob(2);
        due("GONE", y.wealth(0), 0);
        due("on the way is not there", on("road 1;stage 2;person 1;thing 0 5;has 0 0").wealth(1), 0);
        due("the gate is the TOWN", on("road 4;person 1;" + many(6, "thing 9 50;") + "has 0 0").wealth(0), 300);
    }

    private static void wealthCall() {
        says("WEALTH; NONE without these, or a ROAD");
        for (int n : outside(0, 100)) {
            mixedRefuses("n " + n, x -> x.wealth(n), -1);
        }
        refused("no ROAD", LoadRoad::new, x -> x.wealth(0), -1);
        due("a ROAD of nobody", on("road 0").wealth(100), 0);
        asks("in 100", AskEdges::mixed, x -> x.wealth(100), 37 + 20 + 10);
    }

    // ---- what one had best carry --------------------------------------------------------------------

    private static void farSets() {
        says("FAR of a PERSON at a PLACE with a set of THINGS (any, HANDS at most; GONE ones, too)");
        String six = many(5, "thing 9 1;") + "thing 9 1";
        for (int hands = 0; hands <= 4; hands++) {
            LoadRoad x = on("road " + hands + ";stage 60;person 1;" + six);
            for (int set = 0; set < 64; set++) {
                int many = Integer.bitCount(set);
                due("set " + set + " of HANDS " + hands, x.far(0, set), many <= hands ? 60 + 9 * many : -1);
            }
        }
        LoadRoad x = mixed();
        due("with what is GONE", x.far(1, 8), 8);
        due("with what another has", x.far(1, 1), 5);
        due("with nothing, though they have some", x.far(1, 0), 3);
        says("how many DAYS it is to the TOWN, if they have these and no others all the way");
        due("in the TOWN", x.far(2, 9), 0);
        due("none, the gate is the TOWN", on("road 1;person 1;thing 9 9").far(0, 1), 0);
        due("the longest", on("road 4;" + many(8, "stage 60;") + "person 1;" + six).far(0, 15), 768);
        due("the shortest", on("road 0;stage 1;person 20").far(0, 0), 1);
        due("20 of 20", on("road 0;stage 20;person 20").far(0, 0), 1);
        due("20 of 21", on("road 0;stage 21;person 20").far(0, 0), 2);
        due("20 of 20 and 1", on("road 1;stage 20;person 20;thing 1 0").far(0, 1), 2);
        due("what is more is lost at each", on("road 0;stage 1;stage 1;stage 1;person 20").far(0, 0), 3);
    }

    private static void farCall() {
        says("FAR; NONE without these (at a PLACE; a set of THINGS there are)");
        mixedRefuses("between two", x -> x.far(0, 0), -1);
        for (int p : outside(0, 3)) {
            mixedRefuses("person " + p, x -> x.far(p, 0), -1);
        }
        for (int set : outside(0, 63)) {
            mixedRefuses("set " + set, x -> x.far(1, set), -1);
        }
        mixedRefuses("more than HANDS", x -> x.far(1, 7), -1);
        LoadRoad x = on("road 4;stage 1;person 1;thing 0 0;thing 0 0");
        due("both", x.far(0, 3), 1);
        due("a third one is none", x.far(0, 4), -1);
        due("nor with others", x.far(0, 5), -1);
        due("far up", x.far(0, 1 << 30), -1);
        due("no THINGS, the empty set", on("road 4;stage 1;person 1").far(0, 0), 1);
        due("no THINGS, another set", on("road 4;stage 1;person 1").far(0, 1), -1);
        due("no ROAD", new LoadRoad().far(0, 0), -1);
        asks("far", AskEdges::mixed, y -> y.far(1, 8), 8);
    }

    private static void loadDays() {
        says("LOAD of a PERSON at a PLACE for n DAYS (1 to 60): of the sets of THINGS they have, or that lie there, HANDS at most,"
                + " that with which they are in the TOWN by then");
        LoadRoad x = on("road 2;stage 51;person 1;person 1;thing 9 7;thing 8 6;thing 0 50;has 0 0;has 1 2");
        due("in 60 thing 0", x.load(0, 60, 0), 1);
        due("its WORTH", x.load(0, 60, 1), 7);
        due("its DAYS, just as many", x.load(0, 60, 2), 60);
        due("in 59 the other", x.load(0, 59, 0), 2);
        due("its DAYS", x.load(0, 59, 2), 59);
        due("in 58 nothing", x.load(0, 58, 0), 0);
        due("of no WORTH", x.load(0, 58, 1), 0);
        due("its DAYS", x.load(0, 58, 2), 51);
        due("in 51 nothing", x.load(0, 51, 0), 0);
        due("in 50 not at all", x.load(0, 50, 0), -2);
        due("nor its WORTH", x.load(0, 50, 1), -2);
        due("nor its DAYS", x.load(0, 50, 2), -2);
        due("in 1", on("road 1;stage 1;person 1;thing 0 3").load(0, 1, 0), 1);
        due("in the TOWN", on("road 1;person 1;thing 9 3").load(0, 1, 2), 0);
        for (int hands = 0; hands <= 4; hands++) {
            LoadRoad y = on("road " + hands + ";stage 1;person 20;thing 0 1;thing 0 2;thing 0 3;thing 0 4;thing 0 5");
            int[] set = {0, 16, 24, 28, 30};
            due("HANDS " + hands, y.load(0, 1, 0), set[hands]);
        }
        x = mixed();
        due("not what is GONE, another's, or elsewhere", x.load(1, 60, 0), 2 + 16);
        due("by one who has none", x.load(3, 60, 0), 16);
        due("in the TOWN", x.load(2, 1, 0), 4 + 32);
        says("in the TOWN by then, having these and no others all the way, of most WORTH");
        // what they have now does not weigh, and no RULE changes the load on the way
        x = on("road 1;stage 10;stage 10;person 1;thing 9 1;thing 0 2;thing 5 3;has 0 0", "carry 0");
        due("in 20", x.load(0, 20, 0), 2);
        due("in 29 still", x.load(0, 29, 0), 2);
        due("in 30 the heavier one, on both STAGES", x.load(0, 30, 0), 4);
        due("its DAYS", x.load(0, 30, 2), 30);
        due("in 19", x.load(0, 19, 0), -2);
    }

    private static void loadTies() {
        says("of most WORTH; of several the one of fewest DAYS, then the least as bits: the set; its WORTH; DAYS");
        LoadRoad x = on("road 1;stage 10;person 1;thing 3 5;thing 2 5;thing 2 5;thing 1 4");
        due("fewest DAYS, then least", x.load(0, 60, 0), 2);
        due("its WORTH", x.load(0, 60, 1), 5);
        due("its DAYS", x.load(0, 60, 2), 12);
        x = on("road 1;stage 10;person 5;thing 3 5;thing 2 5;thing 1 5");
        due("as many DAYS: the least", x.load(0, 60, 0), 1);
        x = on("road 2;stage 10;person 20;thing 0 0;thing 0 0");
        due("of no WORTH: nothing", x.load(0, 60, 0), 0);
        x = on("road 2;stage 10;person 1;thing 0 0;thing 1 6;thing 0 6;thing 0 0");
        due("without what is worth nothing", x.load(0, 60, 0), 6);
        x = on("road 2;stage 10;person 1;thing 1 3;thing 1 3;thing 2 6");
        due("two are worth as much as one, in as many DAYS", x.load(0, 12, 0), 3);
        x = on("road 2;stage 10;person 1;thing 4 6;thing 1 3;thing 1 3");
        due("two are worth as much as one, in fewer DAYS", x.load(0, 14, 0), 6);
    }

    private static void loadCall() {
        says("LOAD what 0: the set, 1: WORTH, 2: DAYS; -2: with none of these. NONE without these (at a PLACE)");
        mixedRefuses("between two", x -> x.load(0, 60, 0), -1);
        for (int n : outside(1, 60)) {
            mixedRefuses("n " + n, x -> x.load(1, n, 0), -1);
        }
        for (int what : outside(0, 2)) {
            mixedRefuses("what " + what, x -> x.load(1, 60, what), -1);
            mixedRefuses("what " + what + ", with none of these", x -> x.load(1, 1, what), -1);
        }
        for (int p : outside(0, 3)) {
            mixedRefuses("person " + p, x -> x.load(p, 60, 0), -1);
        }
        asks("none of these", AskEdges::mixed, x -> x.load(1, 1, 0), -2);
        due("no ROAD", new LoadRoad().load(0, 1, 0), -1);
    }

    private static void hadSets() {
        says("HAD of a PERSON from a PLACE to a later one in n DAYS (1 to 100): sets of any THINGS, HANDS at most, with which,"
                + " all the way, it takes them just so many from the one to the other: how many; the least as bits; THINGS that are in all, as bits (0 without such)");
        LoadRoad x = on("road 4;stage 60;stage 4;person 1;" + many(5, "thing 9 1;") + "thing 9 1");
        int[] sets = {1, 6, 15, 20, 15};
        int[] least = {0, 1, 3, 7, 15};
        for (int many = 0; many <= 4; many++) {
            due(many + " THINGS", x.had(0, 0, 1, 60 + 9 * many, 0), sets[many]);
            due(many + " THINGS, the least", x.had(0, 0, 1, 60 + 9 * many, 1), least[many]);
            due(many + " THINGS, in all", x.had(0, 0, 1, 60 + 9 * many, 2), 0);
        }
        due("five are too many", x.had(0, 1, 2, 49, 0), 0);
        due("a DAY more is another", x.had(0, 0, 1, 70, 0), 0);
        due("the least of none", x.had(0, 0, 1, 70, 1), -2);
        due("in all of none", x.had(0, 0, 1, 70, 2), 0);
        x = on("road 4;stage 60;stage 4;person 1;thing 9 1;thing 9 1;thing 9 1;thing 9 1;thing 0 1");
        due("in 100, two of four, with or without the light one", x.had(0, 0, 2, 100, 0), 12);
        due("in 99", x.had(0, 0, 2, 99, 0), 0);
        due("36 more on each", x.had(0, 1, 2, 40, 0), 1);
        due("the set", x.had(0, 1, 2, 40, 1), 15);
        due("that is in all", x.had(0, 1, 2, 40, 2), 15);
        due("in 1", on("road 1;stage 4;person 20;thing 9 1").had(0, 0, 1, 1, 0), 2);
        due("just 100", on("road 4;stage 60;stage 4;person 1;thing 9 1;thing 9 1").had(0, 0, 2, 100, 1), 3);
        x = mixed();
        due("between two, GONE ones, too", x.had(0, 1, 2, 15, 1), 8);
        due("that is in all", x.had(0, 1, 2, 15, 2), 8);
        due("from a PLACE they have gone past", x.had(2, 0, 1, 1, 0), 1 + 4 + 6);
        x = on("road 0;stage 7;person 7;thing 1 1");
        due("no HANDS", x.had(0, 0, 1, 1, 0), 1);
        due("no HANDS, in 2", x.had(0, 0, 1, 2, 0), 0);
    }

    private static void hadCall() {
        says("HAD what 0: how many, 1: the least (-2: there is none), 2: in all. -3 without these");
        for (int p : outside(0, 3)) {
            mixedRefuses("person " + p, x -> x.had(p, 0, 1, 4, 0), -3);
        }
        for (int n : outside(1, 100)) {
            mixedRefuses("n " + n, x -> x.had(0, 0, 1, n, 0), -3);
        }
        for (int what : outside(0, 2)) {
            mixedRefuses("what " + what, x -> x.had(0, 0, 1, 4, what), -3);
        }
        for (int from : outside(0, 1)) {
            mixedRefuses("from " + from, x -> x.had(0, from, 2, 4, 0), -3);
        }
        for (int to : outside(1, 2)) {
            mixedRefuses("to " + to, x -> x.had(0, 0, to, 4, 0), -3);
        }
        mixedRefuses("from 1 to 1", x -> x.had(0, 1, 1, 4, 0), -3);
        mixedRefuses("from 2 to 1", x -> x.had(0, 2, 1, 4, 0), -3);
        mixedRefuses("from 2 to 2", x -> x.had(0, 2, 2, 4, 0), -3);
        due("without STAGES", on("road 0;person 1").had(0, 0, 0, 1, 0), -3);
        due("no ROAD", new LoadRoad().had(0, 0, 1, 1, 0), -3);
        LoadRoad x = on("road 0;" + many(8, "stage 1;") + "person 1");
        due("from the first to the last PLACE", x.had(0, 0, 8, 8, 0), 1);
        due("the last STAGE", x.had(0, 7, 8, 1, 0), 1);
        due("from the last PLACE", x.had(0, 8, 9, 1, 0), -3);
    }

    // ---- two ----------------------------------------------------------------------------------------

    private static void exchangeTies() {
        says("EXCHANGE of two PEOPLE at one PLACE: a THING of the first one and one of the second one that had best be exchanged, or nothing,"
                + " so that DAYS to the TOWN of both, together, with what they have then, are fewest;"
                + " of several nothing, then the least of the first one, then of the second one: how many; which");
        LoadRoad x = on("road 2;stage 10;person 1;person 10;thing 5 1;thing 5 1;thing 0 1;thing 0 1;"
                + "has 0 0;has 0 1;has 1 2;has 1 3");
        due("how many", x.exchange(0, 1, 0), 17);
        due("the least of the first one", x.exchange(0, 1, 1), 0);
        due("the least of the second one", x.exchange(0, 1, 2), 2);
        due("the other way, how many", x.exchange(1, 0, 0), 17);
        due("the other way, the first one", x.exchange(1, 0, 1), 2);
        due("the other way, the second one", x.exchange(1, 0, 2), 0);
        x = on("road 2;stage 10;person 1;person 10;thing 0 1;thing 5 1;thing 6 1;thing 0 1;has 0 1;has 0 2;has 1 0;has 1 3");
        due("fewest, not the least", x.exchange(0, 1, 1), 2);
        x = on("road 2;stage 10;person 1;person 10;thing 5 1;thing 0 1;thing 1 1;has 0 0;has 1 1;has 1 2");
        due("of the second one fewest, not the least", x.exchange(0, 1, 2), 1);
        x = on("road 1;stage 10;person 1;person 1;thing 5 1;thing 0 1;has 0 0;has 1 1");
        due("as many either way: nothing", x.exchange(0, 1, 1), -1);
        due("nothing of the second one", x.exchange(0, 1, 2), -1);
        due("as it is", x.exchange(0, 1, 0), 25);
        x = on("road 1;stage 10;person 10;person 1;thing 5 1;thing 0 1;has 0 0;has 1 1");
        due("worse: nothing", x.exchange(0, 1, 1), -1);
        due("the first one has nothing", on("road 1;stage 10;person 1;person 10;thing 5 1;has 1 0").exchange(0, 1, 1), -1);
        due("the second one has nothing", on("road 1;stage 10;person 1;person 10;thing 5 1;has 0 0").exchange(0, 1, 2), -1);
        due("neither has anything", on("road 1;stage 10;person 1;person 10;thing 5 1").exchange(0, 1, 0), 11);
        due("in the TOWN", on("road 1;person 1;person 9;thing 5 1;thing 0 1;has 0 0;has 1 1").exchange(0, 1, 0), 0);
        due("in the TOWN nothing", on("road 1;person 1;person 9;thing 5 1;thing 0 1;has 0 0;has 1 1").exchange(0, 1, 1), -1);
        // both weigh: 17 and 13 by 1 and 2 a day are 17 and 7, 13 and 17 are 13 and 9
        x = on("road 1;stage 10;person 1;person 2;thing 1 1;thing 7 1;thing 3 1;has 0 1;has 1 2");
        due("both weigh", x.exchange(0, 1, 0), 13 + 9);
        due("thing 1", x.exchange(0, 1, 1), 1);
        due("thing 2", x.exchange(0, 1, 2), 2);
        due("both weigh, the other way", x.exchange(1, 0, 0), 13 + 9);
        due("thing 2 first", x.exchange(1, 0, 1), 2);
        x = on("road 4;stage 10;person 1;person 10;thing 0 1;thing 0 1;thing 0 1;thing 0 1;thing 0 1;thing 9 1;"
                + "has 0 5;has 1 4");
        due("thing 5", x.exchange(0, 1, 1), 5);
        due("thing 4", x.exchange(0, 1, 2), 4);
    }

    private static void exchangeCall() {
        says("EXCHANGE what 0: how many, 1, 2: which (NONE: nothing). -2 without these (unlike, at one PLACE)");
        mixedRefuses("oneself", x -> x.exchange(1, 1, 0), -2);
        mixedRefuses("one between two", x -> x.exchange(0, 1, 0), -2);
        mixedRefuses("the other between two", x -> x.exchange(1, 0, 0), -2);
        mixedRefuses("at another PLACE", x -> x.exchange(1, 2, 0), -2);
        refused("both between two", AskEdges::bothOnTheWay, x -> x.exchange(0, 1, 0), -2);
        for (int p : outside(0, 3)) {
            mixedRefuses("one " + p, x -> x.exchange(p, 1, 0), -2);
            mixedRefuses("other " + p, x -> x.exchange(1, p, 0), -2);
            mixedRefuses("both " + p, x -> x.exchange(p, p, 0), -2);
        }
        for (int what : outside(0, 2)) {
            mixedRefuses("what " + what, x -> x.exchange(1, 3, what), -2);
        }
        asks("exchange", AskEdges::mixed, x -> x.exchange(1, 3, 0), 6);
        due("no ROAD", new LoadRoad().exchange(0, 1, 0), -2);
    }

    private static LoadRoad bothOnTheWay() {
        LoadRoad x = on("road 1;stage 9;person 3;person 3;thing 0 0;has 0 0");
        x.day();
        return x;
    }

    private static void robbedTies() {
        says("ROBBED for n DAYS (1 to 60): the THING that had best be GONE now, or none, so that WEALTH is most then;"
                + " of several none, then the least: which; how much");
        LoadRoad x = on("road 2;stage 60;person 1;thing 1 5;thing 0 7;has 0 0;has 0 1");
        due("in 60 without the weight", x.robbed(60, 0), 0);
        due("is worth", x.robbed(60, 1), 7);
        due("in 59 nothing helps", x.robbed(59, 0), -1);
        due("is worth nothing", x.robbed(59, 1), 0);
        x.day();
        due("in 60, a DAY later", x.robbed(60, 0), -1);
        due("is worth all", x.robbed(60, 1), 12);
        x = on("road 2;stage 1;person 4;thing 3 1;thing 3 1;has 0 0;has 0 1");
        due("of several the least", x.robbed(1, 0), 0);
        due("of which one is left", x.robbed(1, 1), 1);
        x = on("road 2;stage 1;person 4;thing 3 1;thing 3 2;has 0 0;has 0 1");
        due("the one that leaves most", x.robbed(1, 0), 0);
        x = on("road 2;stage 1;person 4;thing 3 2;thing 3 1;has 0 0;has 0 1");
        due("though not the least", x.robbed(1, 0), 1);
        x = on("road 2;stage 1;person 1;thing 3 0;has 0 0");
        due("of several none, though one would come sooner", x.robbed(1, 0), -1);
        due("nothing told", on("road 2;stage 1;person 1").robbed(1, 0), -1);
        due("nothing told is worth nothing", on("road 2;stage 1;person 1").robbed(60, 1), 0);
        x = on("road 2;stage 1;person 4;thing 3 1;thing 3 2;has 0 0;has 0 1");
        x.rob(0);
        due("what is GONE can't be", x.robbed(1, 0), -1);
        due("and all is as it is", x.robbed(1, 1), 2);
    }

    private static void robbedCall() {
        says("ROBBED what 0: which (NONE: none), 1: how much. -2 without these, or a ROAD");
        for (int n : outside(1, 60)) {
            mixedRefuses("n " + n, x -> x.robbed(n, 0), -2);
        }
        for (int what : outside(0, 1)) {
            mixedRefuses("what " + what, x -> x.robbed(1, what), -2);
        }
        refused("no ROAD", LoadRoad::new, x -> x.robbed(1, 0), -2);
        asks("robbed", AskEdges::mixed, x -> x.robbed(60, 1), 67);
    }

    private static void gamePasses() {
        says("GAME of two PEOPLE at one PLACE: by turns, the first one first, one takes a THING that lies there, with fewer THINGS than HANDS, or passes");
        LoadRoad x = on("road 1;person 1;person 1;thing 9 4;thing 9 3;thing 9 2;has 0 2");
        due("full hands: the second one takes", x.game(0, 1, 0), 2 - 4);
        due("so the first one passes", x.game(0, 1, 1), -1);
        due("the other way the first one takes", x.game(1, 0, 0), 4 - 2);
        due("the best", x.game(1, 0, 1), 0);
        x = on("road 0;person 1;person 1;thing 9 4");
        due("no HANDS", x.game(0, 1, 0), 0);
        due("no HANDS, to pass", x.game(0, 1, 1), -1);
        x = on("road 2;person 1;person 1;thing 9 4;thing 9 3;has 0 0;has 1 1");
        due("nothing lies there", x.game(0, 1, 0), 1);
        due("nothing lies there, to pass", x.game(0, 1, 1), -1);
        x.rob(0);
        due("GONE", x.game(0, 1, 0), -3);
        due("nothing told", on("road 2;stage 1;person 1;person 1").game(0, 1, 0), 0);
        says("it ends, if both pass, one behind the other");
        // the first one always passes; the second one takes twice between
        x = on("road 2;person 1;person 1;thing 9 1;thing 9 1;thing 9 3;thing 9 4;has 0 0;has 0 1");
        due("not if one passes twice", x.game(0, 1, 0), 2 - 7);
        due("the other way the second one always passes", x.game(1, 0, 0), 7 - 2);
        due("either first is as good, so the least", x.game(1, 0, 1), 2);
        x = on("road 4;person 1;person 1;thing 9 1;thing 9 2;thing 9 3;thing 9 4;thing 9 5;has 1 0");
        due("by turns to the end", x.game(0, 1, 0), 5 + 3 - 4 - 2 - 1);
        due("the best first", x.game(0, 1, 1), 4);
    }

    private static void gameTies() {
        says("if both do their best: how much; what the first one does first (of several to pass, then the least THING)");
        LoadRoad x = on("road 2;person 1;person 1;thing 9 0;thing 9 0");
        due("of no WORTH: to pass", x.game(0, 1, 1), -1);
        x = on("road 2;person 1;person 1;thing 9 5;thing 9 5");
        due("one each: to pass is as good", x.game(0, 1, 1), -1);
        due("even", x.game(0, 1, 0), 0);
        x = on("road 2;person 1;person 1;thing 9 5;thing 9 5;thing 9 5");
        due("of three alike the least", x.game(0, 1, 1), 0);
        due("one more", x.game(0, 1, 0), 5);
        x = on("road 2;person 1;person 1;thing 9 2;thing 9 5;thing 9 5;thing 9 5");
        due("the least of the best", x.game(0, 1, 1), 1);
        says("the first one wants to be worth as much more than the second one as can be, the second one as little");
        // worth 5 less 9 DAYS more to either, so nobody wants it
        x = on("road 2;stage 10;person 1;person 1;thing 9 5");
        due("nobody takes it", x.game(0, 1, 0), 0);
        due("to pass", x.game(0, 1, 1), -1);
        // the second one would be 5 less 1 DAY ahead by it: the first one takes it at a loss
        x = on("road 2;stage 10;person 1;person 10;thing 6 5");
        due("lest the second one has it", x.game(0, 1, 0), (5 - 16) - (0 - 1));
        due("takes it", x.game(0, 1, 1), 0);
        x = on("road 2;stage 10;person 1;person 10;thing 9 3");
        due("it is not worth that", x.game(0, 1, 0), (0 - 10) - (3 - 2));
        due("passes, and the second one takes it", x.game(0, 1, 1), -1);
    }

    private static void gameBounds() {
        says("each is worth the WORTH of all they have then, less DAYS to the TOWN with these");
        LoadRoad x = on("road 4;" + many(8, "stage 60;") + "person 1;person 20;" + many(6, "thing 0 50;") + "has 1 0");
        due("480 DAYS, and 24; three to two", x.game(0, 1, 0), (150 - 480) - (150 - 24));
        x = on("road 4;" + many(8, "stage 60;") + "person 1;person 20;" + many(5, "thing 9 0;") + "thing 9 0;"
                + "has 0 0;has 0 1;has 0 2;has 0 3");
        due("the lowest: 8 times 96 against 8 times 3", x.game(0, 1, 0), -768 + 24);
        due("the highest", x.game(1, 0, 0), 768 - 24);
        x = on("road 4;person 1;person 1;" + many(6, "thing 0 50;") + "has 0 0;has 0 1;has 0 2;has 0 3");
        due("in the TOWN", x.game(0, 1, 0), 200 - 100);
        due("in the TOWN, the other way", x.game(1, 0, 0), 100 - 200);
        due("all six lie there", on("road 3;person 1;person 1;" + many(5, "thing 0 50;") + "thing 0 50").game(0, 1, 0), 0);
    }

    private static void gameCall() {
        says("GAME what 0: how much (below 0, too), 1: the THING (NONE: to pass). -10000 without these (unlike, at one PLACE)");
        mixedRefuses("oneself", x -> x.game(1, 1, 0), -10000);
        mixedRefuses("one between two", x -> x.game(0, 1, 0), -10000);
        mixedRefuses("the other between two", x -> x.game(1, 0, 0), -10000);
        mixedRefuses("at another PLACE", x -> x.game(1, 2, 0), -10000);
        refused("both between two", AskEdges::bothOnTheWay, x -> x.game(0, 1, 0), -10000);
        for (int p : outside(0, 3)) {
            mixedRefuses("one " + p, x -> x.game(p, 1, 0), -10000);
            mixedRefuses("other " + p, x -> x.game(1, p, 0), -10000);
            mixedRefuses("both " + p, x -> x.game(p, p, 0), -10000);
        }
        for (int what : outside(0, 1)) {
            mixedRefuses("what " + what, x -> x.game(1, 3, what), -10000);
        }
        // 1 has 20, thing 4, of 5, lies there; 3 DAYS each
        asks("game", AskEdges::mixed, x -> x.game(1, 3, 0), 25);
        asks("game, the move", AskEdges::mixed, x -> x.game(1, 3, 1), 4);
        asks("game, the other way", AskEdges::mixed, x -> x.game(3, 1, 0), -15);
        due("no ROAD", new LoadRoad().game(0, 1, 0), -10000);
    }

    // ---- pence ------------------------------------------------------------------------------------

    private static void penceParts() {
        says("each the part downwards; what is left, one each, to those whose part lost most by that, of several the least first"
                + " (nothing, if nobody has any)");
        LoadRoad x = on("road 1;" + many(4, "person 1;") + "thing 0 1;thing 0 1;thing 0 1;thing 0 1;has 0 0;has 1 1;has 2 2;has 3 3");
        for (int much = 0; much <= 9; much++) {
            for (int p = 0; p < 4; p++) {
                due(much + " of " + p, x.pence(much, p), much / 4 + (p < much % 4 ? 1 : 0));
            }
        }
        // 10 by 1, 2 and 4 of 7: 1 and 3, 2 and 6, 5 and 5 lost of 7
        x = on("road 1;person 1;person 1;person 1;thing 0 1;thing 0 2;thing 0 4;has 0 0;has 1 1;has 2 2");
        due("lost least", x.pence(10, 0), 1);
        due("lost most", x.pence(10, 1), 3);
        due("lost next", x.pence(10, 2), 6);
        due("1: to who lost most, 4 of 7", x.pence(1, 2), 1);
        due("1: not to the first", x.pence(1, 0), 0);
        due("7: just 1", x.pence(7, 0), 1);
        due("7: just 2", x.pence(7, 1), 2);
        due("7: just 4", x.pence(7, 2), 4);
        x = on("road 2;person 1;person 1;thing 0 0;thing 0 50;has 0 0");
        due("nobody has any WORTH", x.pence(9999, 0), 0);
        due("nor the other", x.pence(9999, 1), 0);
        x.take(1, 1);
        due("one has all", x.pence(9999, 1), 9999);
        due("so the other nothing", x.pence(9999, 0), 0);
        x = on("road 4;person 1;person 1;" + many(6, "thing 0 50;") + "has 0 0;has 0 1;has 0 2;has 0 3;has 1 4;has 1 5");
        due("most of most", x.pence(9999, 0), 6666);
        due("the others of most", x.pence(9999, 1), 3333);
        x = mixed();
        // 10, 20, 30 of 60 between two, at a PLACE, in the TOWN; what lies or is GONE is nobody's
        due("wherever they are, 0", x.pence(60, 0), 10);
        due("wherever they are, 1", x.pence(60, 1), 20);
        due("wherever they are, 2", x.pence(60, 2), 30);
        due("wherever they are, 3", x.pence(60, 3), 0);
    }

    private static void penceCall() {
        says("PENCE (0 to 9999) among PEOPLE by the WORTH of what they have");
        LoadRoad x = mixed();
        due("0", x.pence(0, 2), 0);
        due("1", x.pence(1, 2), 1);
        due("9999 of person 0, who lost a half, as 2 did", x.pence(9999, 0), 1667);
        due("9999 of person 1, who lost nothing", x.pence(9999, 1), 3333);
        due("9999 of person 2", x.pence(9999, 2), 4999);
        says("PENCE of a PERSON; NONE without these");
        for (int much : outside(0, 9999)) {
            mixedRefuses("much " + much, y -> y.pence(much, 0), -1);
        }
        for (int p : outside(0, 3)) {
            mixedRefuses("person " + p, y -> y.pence(1, p), -1);
        }
        due("nobody", on("road 1").pence(1, 0), -1);
        due("no ROAD", new LoadRoad().pence(1, 0), -1);
        asks("pence", AskEdges::mixed, y -> y.pence(60, 1), 20);
    }

    // ---- notes ------------------------------------------------------------------------------------

    private static LoadRoad noted(int n) {
        LoadRoad x = on("road 1;stage 4;stage 4;person 2;person 8;thing 3 1;has 0 0", "carry 0", "carry 1");
        for (int i = 0; i < n; i++) {
            x.note(0, 0, 0);
        }
        return x;
    }

    private static void noteCall() {
        says("NOTES 0 to 9, told: at the begin of the n-th DAY of all (0 to 60) a PERSON's PLACE (the last one they were at) was such");
        LoadRoad x = noted(0);
        for (int i = 1; i <= 10; i++) {
            due("NOTE " + i, x.note(i % 2 * 60, i % 2, i % 3), i);
            due("how many", x.count(10), i);
        }
        says("A NOTE (n NONE: there are none then, 0): how many; -2, and nothing happens, without these, or if there are 10");
        refused("an 11th", () -> noted(10), y -> y.note(0, 0, 0), -2);
        refused("an 11th that is wrong", () -> noted(10), y -> y.note(0, 9, 0), -2);
        for (int n : new int[] {-2, -3, LEAST, 61, 62, MOST}) {
            refused("n " + n, () -> noted(3), y -> y.note(n, 0, 0), -2);
        }
        for (int p : outside(0, 1)) {
            refused("person " + p, () -> noted(3), y -> y.note(0, p, 0), -2);
        }
        for (int place : outside(0, 2)) {
            refused("place " + place, () -> noted(3), y -> y.note(0, 0, place), -2);
        }
        refused("nobody", () -> on("road 1;stage 1"), y -> y.note(0, 0, 0), -2);
        refused("no ROAD", LoadRoad::new, y -> y.note(0, 0, 0), -2);
        due("none then, of 10", x.note(-1, 0, 0), 0);
        due("none", x.count(10), 0);
        due("none then, of none", x.note(-1, 0, 0), 0);
        due("whoever and wherever", x.note(-1, LEAST, MOST), 0);
        due("the first again", x.note(60, 1, 2), 1);
        due("none without a ROAD", new LoadRoad().note(-1, 0, 0), 0);
        due("no ACT", x.count(11), 0);
        // what was forgotten does not rule
        x = noted(0);
        x.note(0, 0, 2);
        due("not so", x.ruled(0), 0);
        x.note(-1, 0, 0);
        due("forgotten", x.ruled(0), 3);
        // the 10th counts
        x = noted(9);
        due("9 of them are so", x.ruled(0), 3);
        x.note(0, 0, 1);
        due("the 10th is not", x.ruled(0), 0);
    }

    private static void ruledNotes() {
        says("RULED: which of the RULES, and of none, so that from the begin on, all as the text told it, all NOTES are so:"
                + " how many; the first (none ahead of 0, told as NONE)");
        LoadRoad x = noted(0);
        due("without NOTES all", x.ruled(0), 3);
        due("none is the first", x.ruled(1), -1);
        x.note(2, 0, 1);
        due("by rule 0 alone", x.ruled(0), 1);
        due("rule 0", x.ruled(1), 0);
        x.note(-1, 0, 0);
        x.note(3, 0, 0);
        due("by none and rule 1", x.ruled(0), 2);
        due("none first", x.ruled(1), -1);
        x.note(2, 0, 1);
        due("not by any", x.ruled(0), 0);
        due("no first", x.ruled(1), -2);
        due("no RULES, but none", on("road 0;person 1").ruled(0), 1);
        due("no RULES, none", on("road 0;person 1").ruled(1), -1);
        // at the begin of DAY 4, not of 3, they are there: 4 and 3 by 2 a day
        x = on("road 1;stage 4;stage 60;person 2;thing 3 1;has 0 0");
        x.note(4, 0, 1);
        due("the 4th", x.ruled(0), 1);
        x.note(-1, 0, 0);
        x.note(4, 0, 0);
        due("not the 4th", x.ruled(0), 0);
        x.note(-1, 0, 0);
        x.note(3, 0, 0);
        due("the 3rd", x.ruled(0), 1);
        x.note(-1, 0, 0);
        x.note(0, 0, 0);
        due("the 0th", x.ruled(0), 1);
        // between two it is the PLACE they were at last; DAY 60 is the last one
        x = on("road 0;stage 60;stage 60;person 1");
        x.note(59, 0, 0);
        x.note(60, 0, 1);
        due("on DAY 60 and the one before", x.ruled(0), 1);
        x.note(60, 0, 0);
        due("not both", x.ruled(0), 0);
        // from the begin on, whatever has been done, and whatever is IN FORCE
        x = noted(0);
        x.force(0);
        x.drop(0, 0);
        x.rob(0);
        days(x, 9);
        x.note(2, 0, 0);
        x.note(4, 0, 1);
        due("as the text told it", x.ruled(0), 2);
        // six RULES and none
        x = on("road 1;stage 1;person 1;thing 1 1;has 0 0", "carry 0", "carry 1", "carry 0", "carry 1", "carry 0", "carry 0");
        due("seven", x.ruled(0), 7);
        x.note(1, 0, 1);
        due("four", x.ruled(0), 4);
        due("the first is 0", x.ruled(1), 0);
        x = on("road 1;stage 1;person 1;thing 1 1;has 0 0", "carry 1", "carry 1", "carry 1", "carry 1", "carry 1", "carry 0");
        x.note(1, 0, 1);
        due("the last alone", x.ruled(1), 5);
    }

    private static void ruledCall() {
        says("RULED what 0: how many, 1: the first (NONE: none; -2: there is none such). -3 for others, or without a ROAD");
        for (int what : outside(0, 1)) {
            mixedRefuses("what " + what, x -> x.ruled(what), -3);
        }
        refused("no ROAD", LoadRoad::new, x -> x.ruled(0), -3);
        refused("no ROAD, the first", LoadRoad::new, x -> x.ruled(1), -3);
        LoadRoad x = new LoadRoad();
        rule(x, "carry 1");
        due("a RULE but no ROAD", x.ruled(0), -3);
        due("a ROAD of nobody", on("road 0").ruled(0), 1);
        asks("ruled", AskEdges::mixed, y -> y.ruled(0), 3);
    }

    private static void lookTies() {
        says("LOOK at the begin of the n-th DAY: the PERSON by whose PLACE these part best: the most alike are fewest, of several the least; how many");
        // rule 0 leaves all, rule 1 is as none
        LoadRoad x = on("road 1;stage 4;person 4;person 4;person 4;thing 1 1;thing 1 1;has 1 0;has 2 1", "carry 0", "carry has");
        due("of 1 and 2 the least", x.look(1, 0), 1);
        due("two alike", x.look(1, 1), 2);
        due("on DAY 0 all are alike: the least", x.look(0, 0), 0);
        due("all three", x.look(0, 1), 3);
        due("in the end all are alike", x.look(60, 0), 0);
        due("all three in the end", x.look(60, 1), 3);
        // with it a STAGE is 3 DAYS, without it one: left nowhere, at the gate, at PLACE 1
        x = on("road 1;stage 1;stage 1;stage 1;person 4;person 4;thing 9 0;has 1 0", "carry 0", "carry has-place");
        due("person 1", x.look(3, 0), 1);
        due("at PLACES 1, 3, 1", x.look(3, 1), 2);
        due("person 1 still", x.look(4, 0), 1);
        due("at PLACES 1, 3, 2", x.look(4, 1), 1);
        // one rule alone is alike with itself
        x = on("road 1;stage 1;person 1");
        due("none alone", x.look(0, 1), 1);
        due("the first PERSON", x.look(0, 0), 0);
        // what NOTES rule out is not looked at
        x = on("road 1;stage 4;person 4;person 4;thing 1 1;has 1 0", "carry 0", "carry 0", "carry 0");
        due("three of four", x.look(1, 1), 3);
        x.note(1, 1, 0);
        due("none alone is left", x.look(1, 1), 1);
        x.note(-1, 0, 0);
        x.note(1, 1, 1);
        due("three of three", x.look(1, 1), 3);
        // DAY 60, the last one
        x = on("road 1;stage 60;person 1;thing 1 1;has 0 0", "carry 0");
        due("on DAY 59 alike", x.look(59, 1), 2);
        due("on DAY 60 apart", x.look(60, 1), 1);
        // six RULES and none: seven
        x = on("road 1;stage 4;person 4;thing 1 1;has 0 0", "carry 0", "carry 0", "carry 0", "carry 0", "carry 0", "carry 0");
        due("six of seven", x.look(1, 1), 6);
        due("seven", x.look(0, 1), 7);
    }

    private static void lookCall() {
        says("LOOK (n 0 to 60) what 0: the PERSON, 1: how many; -2: no RULE is so, or there are no PEOPLE. NONE without these, or a ROAD");
        for (int n : outside(0, 60)) {
            mixedRefuses("n " + n, x -> x.look(n, 0), -1);
        }
        for (int what : outside(0, 1)) {
            mixedRefuses("what " + what, x -> x.look(0, what), -1);
        }
        refused("no ROAD", LoadRoad::new, x -> x.look(0, 0), -1);
        due("no PEOPLE", on("road 0;stage 1").look(0, 0), -2);
        due("no PEOPLE, how many", on("road 0;stage 1").look(60, 1), -2);
        due("no PEOPLE, n 61", on("road 0;stage 1").look(61, 0), -1);
        LoadRoad x = noted(0);
        x.note(0, 0, 1);
        due("no RULE is so", x.look(0, 0), -2);
        due("no RULE is so, how many", x.look(60, 1), -2);
        due("no RULE is so, what 2", x.look(0, 2), -1);
        asks("look", AskEdges::mixed, y -> y.look(2, 1), 3);
    }

    // ---- draws ------------------------------------------------------------------------------------

    /** The n-th DRAW from x on, by numbers as large as may be. */
    private static int draw(int x, int n) {
        BigInteger all = BigInteger.valueOf(2147483648L);
        BigInteger now = BigInteger.valueOf(x);
        for (int i = 0; i < n; i++) {
            now = now.multiply(BigInteger.valueOf(1103515245L)).add(BigInteger.valueOf(12345L)).mod(all);
        }
        return now.intValueExact() / 65536;
    }

    private static void draws() {
        says("DRAWS: x (0 to 2147483647; 0 at first) becomes x * 1103515245 + 12345, of 2147483648 the rest; a DRAW is x / 65536");
        // all are in the TOWN, and of six THINGS the one that is GONE tells the DRAW
        LoadRoad x = on("road 0;thing 0 1;thing 0 2;thing 0 4;thing 0 8;thing 0 16;thing 0 32");
        due("0 at first", x.count(12), 0);
        for (int from : new int[] {0, 1, 2, 12345, 65535, 65536, 1103515245, 1 << 30, MOST - 1, MOST}) {
            x.seed(from);
            due("from " + from, x.thieves(1, 1, 100, 0), 63 - (1 << draw(from, 2) % 6));
            int first = 1 << draw(from, 2) % 6;
            int second = 1 << draw(from, 4) % 6;
            due("two DAYS from " + from, x.thieves(1, 2, 100, 0), 63 - (first | second));
            due("twice a DAY from " + from, x.thieves(2, 1, 100, 0), 63 - first + 63 - second);
            // just at its DRAW mod 100 there are none, one above there are
            int bound = draw(from, 1) % 100;
            due("not below from " + from, x.thieves(1, 1, bound, 0), 63);
            due("below from " + from, x.thieves(1, 1, bound + 1, 0), 63 - first);
            due("x as it was", x.count(12), from);
        }
    }

    private static void seedCall() {
        says("x becomes a number: what it was; NONE, and nothing happens, below 0");
        for (int x : new int[] {-1, -2, LEAST, LEAST + 1}) {
            mixedRefuses("seed " + x, y -> y.seed(x), -1);
        }
        LoadRoad x = new LoadRoad();
        due("was 0", x.seed(1), 0);
        due("was 1", x.seed(MOST), 1);
        due("was the most", x.seed(0), MOST);
        due("was 0 again", x.seed(0), 0);
        due("is 0", x.count(12), 0);
    }

    private static void thievesDraws() {
        says("ahead of each a DRAW mod 100; is it below p (0 to 100)");
        LoadRoad x = on("road 1;stage 1;person 1;thing 9 50;has 0 0");
        due("p 100: robbed ahead of the DAY, so they come on it", x.thieves(1, 1, 100, 1), 1);
        due("p 100: nothing is left", x.thieves(10, 1, 100, 0), 0);
        due("p 0: nobody comes", x.thieves(10, 1, 0, 1), 0);
        due("p 0: all is there in 10 DAYS", x.thieves(10, 10, 0, 0), 500);
        due("p 0, x whose DRAW is 0", thievesFrom(0, 0), 500);
        // a second DRAW only if the first one was below p
        LoadRoad y = on("road 0;thing 0 1;thing 0 2;thing 0 4;thing 0 8;thing 0 16;thing 0 32");
        for (int p = 0; p <= 100; p++) {
            int gone = 0;
            int at = 0;
            for (int i = 0; i < 20; i++) {
                at++;
                if (draw(0, at) % 100 < p) {
                    at++;
                    gone |= 1 << draw(0, at) % 6;
                }
            }
            due("20 DAYS by p " + p, y.thieves(1, 20, p, 0), 63 - gone);
        }
    }

    private static int thievesFrom(int seed, int p) {
        LoadRoad x = on("road 1;stage 1;person 1;thing 9 50;has 0 0");
        x.seed(seed);
        return x.thieves(10, 10, p, 0);
    }

    private static void thievesThings() {
        says("and are there THINGS, a DRAW mod how many: that one is GONE");
        due("without THINGS", on("road 0;stage 1;person 1").thieves(10, 1, 100, 1), 10);
        due("of one THING", on("road 0;person 1;thing 0 7").thieves(1, 60, 1, 0), 0);
        LoadRoad x = on("road 0;thing 0 1;thing 0 2;thing 0 4;thing 0 8;thing 0 16;thing 0 32");
        x.rob(draw(0, 2) % 6);
        due("what is GONE can be drawn again", x.thieves(1, 1, 100, 0), 63 - (1 << draw(0, 2) % 6));
        says("WEALTH at the end; how many PEOPLE are in the TOWN then, all together (x as it was)");
        LoadRoad y = on("road 4;person 1;person 1;person 1;person 1;" + many(5, "thing 0 50;") + "thing 0 50");
        due("most WEALTH", y.thieves(10, 60, 0, 0), 3000);
        due("most PEOPLE", y.thieves(10, 60, 0, 1), 40);
        due("each time from now on", y.thieves(3, 1, 100, 0), 750);
        due("of nobody", on("road 0").thieves(10, 60, 100, 1), 0);
        due("nothing is GONE but there", y.count(9), 0);
    }

    private static void thievesCall() {
        says("THIEVES m times (1 to 10) n DAYS (1 to 60) from now on");
        LoadRoad x = on("road 1;stage 60;person 1;thing 0 5;has 0 0");
        due("60 DAYS", x.thieves(1, 60, 0, 0), 5);
        due("59 DAYS", x.thieves(1, 59, 0, 0), 0);
        due("10 times", x.thieves(10, 60, 0, 1), 10);
        due("once", x.thieves(1, 60, 0, 1), 1);
        x.day();
        due("59 DAYS from now on", x.thieves(1, 59, 0, 0), 5);
        says("THIEVES what 0: how much, 1: how many. NONE without these, or a ROAD");
        for (int m : outside(1, 10)) {
            mixedRefuses("m " + m, y -> y.thieves(m, 1, 1, 0), -1);
        }
        for (int n : outside(1, 60)) {
            mixedRefuses("n " + n, y -> y.thieves(1, n, 1, 0), -1);
        }
        for (int p : outside(0, 100)) {
            mixedRefuses("p " + p, y -> y.thieves(1, 1, p, 0), -1);
        }
        for (int what : outside(0, 1)) {
            mixedRefuses("what " + what, y -> y.thieves(1, 1, 1, what), -1);
        }
        refused("no ROAD", LoadRoad::new, y -> y.thieves(1, 1, 1, 0), -1);
        asks("thieves", AskEdges::mixed, y -> y.thieves(1, 1, 0, 0), 37);
    }

    // ---- counts and images --------------------------------------------------------------------------

    private static void countCall() {
        says("What 0: HANDS, 1: STAGES, 2: PEOPLE, 3: THINGS, 4: RULES, 5: the RULE IN FORCE (NONE), 6: DAY,"
                + " 7: who is in the TOWN, as bits, 8: WEALTH now, 9: THINGS that are GONE, as bits, 10: NOTES,"
                + " 11: ACTS that can be UNDONE, 12: x, 13: bytes of the TAPE. NONE for others");
        LoadRoad x = mixed();
        int[] want = {2, 2, 4, 6, 2, 0, 2, 4, 37, 8, 1, 5, 12, 20};
        for (int what = 0; what < want.length; what++) {
            due("count " + what, x.count(what), want[what]);
        }
        for (int what : outside(0, 13)) {
            mixedRefuses("count " + what, y -> y.count(what), -1);
            due("of a new one, count " + what, new LoadRoad().count(what), -1);
        }
    }

    private static void countBounds() {
        says("who is in the TOWN, as bits, 8: WEALTH now, 9: THINGS that are GONE, as bits");
        LoadRoad x = on("road 4;" + many(4, "person 1;") + many(5, "thing 9 50;") + "thing 9 50");
        due("all four", x.count(7), 15);
        due("all six", x.count(8), 300);
        due("none GONE", x.count(9), 0);
        for (int t = 0; t < 6; t++) {
            x.rob(t);
            due("GONE", x.count(9), (2 << t) - 1);
        }
        due("nothing in the TOWN", x.count(8), 0);
        x = on("road 4;stage 1;" + many(3, "person 1;") + "person 1");
        due("nobody yet", x.count(7), 0);
        x.day();
        due("all then", x.count(7), 15);
        due("of nobody", on("road 4").count(7), 0);
    }

    private static void imageCall() {
        says("An IMAGE is made: the DAY; NONE without it");
        for (int k : outside(0, 3)) {
            mixedRefuses("image " + k, x -> x.image(k), -1);
        }
        LoadRoad x = on("road 1;stage 60;person 1");
        for (int k = 0; k < 4; k++) {
            due("image " + k, x.image(k), k);
            x.day();
        }
        for (int k = 0; k < 4; k++) {
            due("back " + k, x.back(k), k);
            due("gone", x.person(0, 2), k);
        }
        due("in place of the one there was", x.image(0), 3);
        due("it is the later one", x.back(0), 3);
        due("the others are as they were", x.back(1), 1);
        due("without a ROAD", new LoadRoad().image(0), 0);
        due("no ACT", x.count(11), 1);
    }

    /** How many are so by a NOTE that is so by none but rule 0, behind another in its place. */
    private static int noteAsImaged(int which) {
        LoadRoad x = noted(0);
        x.note(2, 0, 1);
        x.image(0);
        x.note(-1, 0, 0);
        x.note(which == 0 ? 60 : 2, which == 1 ? 1 : 0, which == 2 ? 0 : 1);
        x.back(0);
        return x.ruled(0);
    }

    private static void backCall() {
        says("All is as in an IMAGE: the DAY; NONE, and nothing happens, if it was never made, or without it");
        for (int k : outside(0, 3)) {
            mixedRefuses("back " + k, x -> x.back(k), -1);
        }
        mixedRefuses("0 was never made", x -> x.back(0), -1);
        mixedRefuses("2 was never made", x -> x.back(2), -1);
        for (int k = 0; k < 4; k++) {
            int never = k;
            refused("of a new one, back " + k, LoadRoad::new, x -> x.back(never), -1);
        }
        says("IMAGES 0 to 3: all but the RULES and the TAPE, as it is (the RULE IN FORCE, what can be UNDONE, too); gone back to,"
                + " it is as it was (these stay)");
        LoadRoad x = mixed();
        x.image(0);
        x.end(0);
        rule(x, "carry 5");
        x.force(2);
        x.seed(99);
        x.note(-1, 0, 0);
        days(x, 30);
        road(x, "road 4;stage 1");
        x.feed(1, 2, 3, 4, 5);
        x.feed(1, 2, 3, 4, 5);
        due("back", x.back(0), 2);
        int[] want = {2, 2, 4, 6, 3, 0, 2, 4, 37, 8, 1, 5, 12, 40};
        for (int what = 0; what < want.length; what++) {
            due("count " + what, x.count(what), want[what]);
        }
        due("undone", x.undo(), 4);
        due("there again", x.thing(3, 2), 10);
        due("an IMAGE of before the DAYS", x.back(1), 0);
        due("none to be UNDONE there", x.undo(), -2);
        due("a NOTE", x.count(10), 1);
        // NOTES, each by its DAY, PERSON and PLACE
        x = noted(0);
        x.note(2, 0, 1);
        x.note(1, 1, 1);
        x.image(3);
        x.note(-1, 0, 0);
        x.note(3, 1, 0);
        x.note(5, 0, 2);
        due("not so", x.ruled(0), 0);
        x.image(2);
        x.back(3);
        due("NOTES of the one IMAGE", x.count(10), 2);
        due("by rule 0 alone", x.ruled(0), 1);
        due("rule 0", x.ruled(1), 0);
        x.back(2);
        due("NOTES of the other IMAGE", x.ruled(0), 0);
        for (int which = 0; which < 3; which++) {
            due("each NOTE is all it was, " + which, noteAsImaged(which), 1);
        }
        // to one without a ROAD
        LoadRoad y = new LoadRoad();
        y.image(0);
        road(y, "road 1;stage 1;person 1");
        rule(y, "carry 1");
        y.force(0);
        y.day();
        due("back to none", y.back(0), 0);
        due("no ROAD", y.day(), -1);
        due("none IN FORCE", y.count(5), -1);
        due("the RULE stays", y.count(4), 1);
        due("and can be IN FORCE", y.force(0), -1);
        // what can be UNDONE is as it was, however full
        LoadRoad z = on("road 1;stage 60;stage 60;person 1");
        days(z, 27);
        z.image(2);
        days(z, 15);
        for (int i = 0; i < 20; i++) {
            z.undo();
        }
        due("back to DAY 27", z.back(2), 27);
        for (int i = 19; i >= 0; i--) {
            due("undo", z.undo(), i);
            due("DAY", z.count(6), 7 + i);
        }
        due("none", z.undo(), -2);
        due("the IMAGE is as it was", z.back(2), 27);
        due("its ACTS, too", z.count(11), 20);
    }
}
