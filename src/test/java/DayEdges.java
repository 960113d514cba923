/** The boundary cases of DAYS and ACTS; section II, promises 7 to 15. */
public final class DayEdges extends Bench {

    public static void main(String[] args) {
        goneForGood();
        stayInTown();
        byNumbers();
        thingsByNumbers();
        atAPlace();
        aboveNothing();
        fullHands();
        noRule();
        goneMore();
        asMuchOrMore();
        moreIsLost();
        roadByWeight();
        lastDay();
        dropConditions();
        takeConditions();
        giveConditions();
        robConditions();
        actsInTown();
        lastTwenty();
        personCall();
        thingCall();
        stageCall();
        dayCall();
        dropCall();
        takeCall();
        giveCall();
        robCall();
        undoCall();
        finish();
    }

    /**
     * DAY 2, HANDS 2: person 0 is between the gate and PLACE 1, with thing 0; 1 and 3 are at PLACE 1,
     * 1 with thing 1; 2 is in the TOWN, with thing 2. Thing 3 is GONE, 4 lies at PLACE 1, 5 in the
     * TOWN. Five ACTS, two IMAGES, NOTES, RULES, bytes of a TAPE.
     */
    private static LoadRoad mixed() {
        LoadRoad x = on("road 2;stage 4;stage 6;person 1;person 2;person 6;person 2;"
                + "thing 3 10;thing 0 20;thing 0 30;thing 9 40;thing 0 5;thing 0 7;"
                + "has 0 0;has 1 1;has 2 2;has 3 4;has 2 5", "carry has", "carry 1");
        x.seed(12);
        x.note(2, 1, 1);
        x.image(1);
        days(x, 2);
        x.drop(3, 4);
        x.drop(2, 5);
        x.rob(3);
        x.image(3);
        x.feed(0x726f6164, 0x20332020, 0x20202020, 0x20202020, 0x20202020);
        return x;
    }

    // ---- days -----------------------------------------------------------------------------------

    private static void goneForGood() {
        says("A THING is had by a PERSON, lies at a PLACE, or is GONE, for good");
        LoadRoad x = on("road 2;stage 9;person 3;person 3;thing 0 5;thing 0 5;has 0 0", "carry 1");
        x.rob(0);
        x.rob(1);
        due("not dropped", x.drop(0, 0), -1);
        due("not taken", x.take(0, 1), -1);
        due("not given", x.give(0, 1, 0), -1);
        due("not robbed again", x.rob(0), -2);
        days(x, 10);
        due("no RULE brings it back", x.count(9), 3);
        due("nobody has any", x.person(0, 3), 0);
        due("where", x.thing(0, 2), -1);
        due("not in the TOWN", x.count(8), 0);
        for (int i = 0; i < 11; i++) {
            x.undo();
        }
        due("but undone it is there", x.thing(1, 2), 10);
        due("the other one still is GONE", x.thing(0, 2), -1);
    }

    private static void stayInTown() {
        says("Who is in the TOWN stays there, with what they have");
        LoadRoad x = on("road 2;person 3;thing 1 1;thing 1 1;has 0 0", "carry 1-has");
        due("nobody comes", x.day(), 0);
        due("has what they had", x.thing(0, 2), 0);
        due("and takes nothing", x.thing(1, 2), 10);
        due("stays", x.person(0, 1), 0);
        due("goes no further", x.person(0, 2), 0);
        x = on("road 2;stage 1;person 20;person 1;thing 1 1;thing 0 1;has 0 0;has 1 1", "carry has");
        due("both come", x.day(), 3);
        x.drop(1, 1);
        rule(x, "carry 1-has");
        x.force(1);
        due("nobody comes then", x.day(), 0);
        due("thing 0 is had", x.thing(0, 2), 0);
        due("thing 1 lies", x.thing(1, 2), 11);
        due("place", x.person(0, 1), 1);
        due("gone", x.person(0, 2), 0);
    }

    private static void byNumbers() {
        says("PEOPLE by numbers who are not in the TOWN, each by how all is then");
        LoadRoad x = on("road 1;stage 9;person 1;person 1;thing 1 1", "carry 1");
        x.day();
        due("the first one has it", x.thing(0, 2), 0);
        // the first one leaves it, so the second one finds it, on the same DAY
        x = on("road 1;stage 9;person 1;person 1;thing 1 1;has 0 0", "carry person");
        x.day();
        due("the second one has it", x.thing(0, 2), 1);
        // the second one leaves it, but the first one is gone by then
        x = on("road 1;stage 9;person 1;person 1;thing 1 1;has 1 0", "carry 1-person");
        x.day();
        due("it lies", x.thing(0, 2), 10);
        // the first one brings it to PLACE 1 on a DAY on which the second one starts from there
        x = on("road 1;stage 1;stage 9;person 1;person 1;thing 0 1;has 0 0", "carry 1-place");
        x.force(-1);
        due("both come to PLACE 1", x.day(), 3);
        x.force(0);
        x.day();
        due("left by the first one there", x.thing(0, 2), 11);
        says("who comes to a PLACE on it, as bits");
        x = on("road 0;stage 2;person 1;person 2;person 1;person 20");
        due("the second and the fourth", x.day(), 10);
        due("the others", x.day(), 5);
        due("nobody", x.day(), 0);
        due("all four", on("road 0;stage 1;person 1;person 2;person 1;person 20").day(), 15);
        due("without PEOPLE", on("road 4;stage 1").day(), 0);
        due("the gate is the TOWN", on("road 4;person 1").day(), 0);
    }

    private static void thingsByNumbers() {
        says("THINGS by numbers that they have, or that lie there, each by how all is then");
        LoadRoad x = on("road 2;stage 9;person 1;thing 1 1;thing 1 1;thing 1 1;thing 1 1", "carry 1");
        x.day();
        due("the first two", x.person(0, 3), 3);
        // many goes up with each
        x = on("road 4;stage 9;person 1;thing 1 1;thing 1 1;thing 1 1;thing 1 1", "carry 3-many-has");
        x.day();
        due("three", x.person(0, 3), 7);
        // the first is left, so there is room for the second
        x = on("road 1;stage 9;person 1;thing 1 0;thing 1 1;has 0 0", "carry worth");
        x.day();
        due("left, then taken", x.person(0, 3), 2);
        // the second is left too late
        x = on("road 1;stage 9;person 1;thing 1 1;thing 1 0;has 0 1", "carry worth");
        x.day();
        due("full, then left", x.person(0, 3), 0);
        // what lies at another PLACE, is another's or GONE is not weighed
        x = on("road 4;stage 2;stage 9;person 2;person 2;thing 0 1;thing 0 1;thing 0 1;thing 0 1;has 0 0;has 1 1", "carry 1");
        x.force(-1);
        x.rob(2);
        x.day();
        x.force(0);
        x.day();
        due("person 0", x.person(0, 3), 1);
        due("person 1", x.person(1, 3), 2);
        due("GONE", x.thing(2, 2), -1);
        due("at the gate", x.thing(3, 2), 10);
        due("left at the PLACE one is at", leftAt(1), 11);
        due("left at the gate", leftAt(0), 10);
    }

    private static int leftAt(int place) {
        LoadRoad x = on("road 1;stage 1;stage 9;person 1;thing 0 1;has 0 0", "carry 0");
        x.force(-1);
        days(x, place);
        x.force(0);
        x.day();
        return x.thing(0, 2);
    }

    private static void atAPlace() {
        says("(1) One at a PLACE (who is not between two)");
        LoadRoad x = on("road 2;stage 3;stage 3;person 1;thing 0 1;thing 0 1;has 0 0", "carry 1-has");
        x.force(-1);
        x.day();
        x.force(0);
        due("between two", x.person(0, 2), 1);
        x.day();
        due("still has", x.thing(0, 2), 0);
        due("still lies", x.thing(1, 2), 10);
        due("comes", x.day(), 1);
        due("with what they had", x.thing(0, 2), 0);
        x.day();
        due("leaves it where they came", x.thing(0, 2), 11);
    }

    private static int carried(String sum, boolean had) {
        LoadRoad x = on("road 1;stage 9;person 1;thing 1 1" + (had ? ";has 0 0" : ""), "carry " + sum);
        x.day();
        return x.thing(0, 2);
    }

    private static void aboveNothing() {
        says("is it above 0, they have that THING from now on");
        due("1, had", carried("1", true), 0);
        due("1, lies", carried("1", false), 0);
        due("99999, lies", carried("99999", false), 0);
        says("is it not, it lies there");
        due("0, had", carried("0", true), 10);
        due("0, lies", carried("0", false), 10);
        due("-1, had", carried("0-1", true), 10);
        due("-1, lies", carried("0-1", false), 10);
        due("-99999, had", carried("0-99999", true), 10);
    }

    private static void fullHands() {
        says("(if they have it already, or fewer than HANDS; else it stays)");
        LoadRoad x = on("road 0;stage 9;person 1;thing 1 1", "carry 1");
        x.day();
        due("without HANDS", x.thing(0, 2), 10);
        for (int hands = 1; hands <= 4; hands++) {
            StringBuilder text = new StringBuilder("road " + hands + ";stage 9;person 1;" + many(5, "thing 1 1;") + "thing 1 1");
            for (int thing = 6 - hands; thing < 6; thing++) {
                text.append(";has 0 ").append(thing);
            }
            x = on(text.toString(), "carry 1");
            x.day();
            due("full: has these still, of HANDS " + hands, x.person(0, 3), 64 - (1 << (6 - hands)));
            x = on("road " + hands + ";stage 9;person 1;" + many(5, "thing 1 1;") + "thing 1 1", "carry 1");
            x.day();
            due("as many as HANDS " + hands, x.person(0, 3), (1 << hands) - 1);
        }
    }

    private static void noRule() {
        says("Without a RULE all stays as it is");
        LoadRoad x = on("road 2;stage 9;person 1;thing 1 1;thing 1 1;has 0 0");
        x.day();
        due("has", x.thing(0, 2), 0);
        due("lies", x.thing(1, 2), 10);
        x = on("road 2;stage 9;person 1;thing 1 1;thing 1 1;has 0 0", "carry 1-has");
        x.force(-1);
        x.day();
        due("has", x.thing(0, 2), 0);
        due("lies", x.thing(1, 2), 10);
    }

    private static void goneMore() {
        says("(2) They have gone PACE furlongs more on the STAGE ahead");
        LoadRoad x = on("road 0;stage 59;stage 60;person 20;person 1;person 19");
        int[][] gone = {{20, 1, 19}, {40, 2, 38}, {0, 3, 57}, {20, 4, 0}};
        for (int i = 0; i < gone.length; i++) {
            x.day();
            for (int p = 0; p < 3; p++) {
                due("person " + p + " on DAY " + i, x.person(p, 2), gone[i][p]);
            }
        }
        due("person 0", x.person(0, 1), 1);
        due("person 1", x.person(1, 1), 0);
        due("person 2", x.person(2, 1), 1);
    }

    private static void asMuchOrMore() {
        says("is that as much as its FURLONGS and the WEIGHT of all they have, or more, they are at the next PLACE");
        String thing = ";thing 9 1;has 0 0";
        due("1 of 1", on("road 0;stage 1;person 1").day(), 1);
        due("1 of 2", on("road 0;stage 2;person 1").day(), 0);
        due("20 of 20", on("road 0;stage 20;person 20").day(), 1);
        due("20 of 21", on("road 0;stage 21;person 20").day(), 0);
        due("20 of 11 and 9", on("road 1;stage 11;person 20" + thing).day(), 1);
        due("20 of 12 and 9", on("road 1;stage 12;person 20" + thing).day(), 0);
        due("20 of 10 and 9", on("road 1;stage 10;person 20" + thing).day(), 1);
        LoadRoad x = on("road 4;stage 60;person 1;thing 9 0;thing 9 0;thing 9 0;thing 9 0;has 0 0;has 0 1;has 0 2;has 0 3");
        for (int i = 1; i < 96; i++) {
            due("on the way, " + i, x.day(), 0);
            due("gone", x.person(0, 2), i);
        }
        due("96 of 60 and 36", x.day(), 1);
        // only what they have weighs
        due("what lies there does not weigh", on("road 1;stage 1;person 1;thing 9 1").day(), 1);
        due("what another has does not weigh", on("road 1;stage 1;person 1;person 1;thing 9 1;has 1 0").day(), 1);
    }

    private static void moreIsLost() {
        says("(what is more is lost), else between two");
        LoadRoad x = on("road 0;stage 1;stage 1;stage 60;person 20");
        due("one PLACE a DAY", x.day(), 1);
        due("place 1", x.person(0, 1), 1);
        due("what was more is lost", x.person(0, 2), 0);
        x.day();
        due("place 2", x.person(0, 1), 2);
        due("lost again", x.person(0, 2), 0);
        x.day();
        due("between two", x.person(0, 2), 20);
        due("the last one they were at", x.person(0, 1), 2);
    }

    private static void roadByWeight() {
        says("WEIGHT of all they have");
        // robbed between two: 8 gone of 3 and 9; without it that is enough, on the next DAY
        LoadRoad x = on("road 1;stage 3;person 2;thing 9 1;has 0 0");
        days(x, 4);
        x.rob(0);
        due("not at once", x.person(0, 1), 0);
        due("gone", x.person(0, 2), 8);
        due("on the next DAY", x.day(), 1);
        // undone, it weighs again
        x.undo();
        x.undo();
        due("with it", x.day(), 0);
        due("and then", x.day(), 1);
        // left by a RULE ahead of the way
        due("left at the gate", on("road 1;stage 1;person 1;thing 9 1;has 0 0", "carry 0").day(), 1);
        due("taken up at the gate", on("road 1;stage 1;person 1;thing 9 1", "carry 1").day(), 0);
    }

    private static LoadRoad onDay(int day) {
        LoadRoad x = on("road 1;stage 60;person 1;thing 0 1", "carry 1 if day>999;carry 2 if day=999");
        days(x, day);
        return x;
    }

    private static void lastDay() {
        says("DAY is 1 more (999 at most)");
        LoadRoad x = on("road 1;stage 60;person 1");
        for (int i = 0; i < 30; i++) {
            due("DAY", x.count(6), i);
            x.day();
        }
        x.rob(0);
        due("no other call makes it more", x.count(6), 30);
        // no run of 512 calls comes so far
        x = onDay(998);
        due("DAY 998", x.count(6), 998);
        due("the last one", x.day(), 0);
        due("DAY 999", x.count(6), 999);
        says("NONE, and nothing happens, without a ROAD, or at DAY 999");
        refused("at DAY 999", () -> onDay(999), LoadRoad::day, -1);
        refused("without a ROAD", LoadRoad::new, LoadRoad::day, -1);
        x = onDay(999);
        x.undo();
        due("undone it is 998", x.count(6), 998);
        due("and goes on", x.day(), 0);
        due("once", x.day(), -1);
        says("DAYS go on by the RULE IN FORCE, beyond 999, too");
        x = on("road 1;stage 60;person 1;person 1;thing 0 1", "carry 1 if day>999");
        days(x, 999);
        due("in the TOWN long since", x.comes(0), 999);
        x = on("road 1;stage 1;person 1;thing 0 7;has 0 0", "carry 1");
        days(x, 999);
        due("WEALTH in 100 DAYS", x.wealth(100), 7);
        due("place in 100 DAYS", x.ahead(0, 100, 0), 1);
        due("THIEVES", x.thieves(1, 60, 0, 0), 7);
        due("an ACT, on DAY 999", x.drop(0, 0), 0);
        due("DAY 999 still", x.count(6), 999);
        due("an IMAGE of it", x.image(0), 999);
    }

    // ---- what acts need ---------------------------------------------------------------------------

    private static void dropConditions() {
        says("DROP (a PERSON at a PLACE leaves a THING they have there)");
        LoadRoad x = mixed();
        due("at PLACE 1", x.drop(1, 1), 0);
        due("lies there", x.thing(1, 2), 11);
        due("in the TOWN", x.drop(2, 2), 0);
        due("lies in the TOWN", x.thing(2, 2), 12);
        x = on("road 2;stage 4;person 1;thing 1 1;thing 1 1;has 0 0;has 0 1");
        due("at the gate", x.drop(0, 0), 1);
        due("lies at the gate", x.thing(0, 2), 10);
        due("the last one", x.drop(0, 1), 0);
        due("it can be taken up again", x.take(0, 1), 1);
    }

    private static void takeConditions() {
        says("TAKE (a PERSON at a PLACE, with fewer THINGS than HANDS, has a THING that lies there)");
        LoadRoad x = mixed();
        due("at PLACE 1", x.take(3, 4), 1);
        due("has it", x.thing(4, 2), 3);
        due("in the TOWN", x.take(2, 5), 2);
        x = mixed();
        due("by one who has one of two", x.take(1, 4), 2);
        for (int hands = 0; hands <= 4; hands++) {
            x = on("road " + hands + ";stage 4;person 1;" + many(5, "thing 0 0;") + "thing 0 0");
            for (int i = 0; i < hands; i++) {
                due("HANDS " + hands, x.take(0, 5 - i), i + 1);
            }
            due("one more than HANDS " + hands, x.take(0, 0), -1);
            due("it lies still", x.thing(0, 2), 10);
        }
    }

    private static void giveConditions() {
        says("GIVE (of two PEOPLE at one PLACE the first one gives a THING to the second one, who has fewer THINGS than HANDS)");
        LoadRoad x = mixed();
        due("at PLACE 1", x.give(1, 3, 1), 1);
        due("has it", x.thing(1, 2), 3);
        due("and back", x.give(3, 1, 1), 1);
        for (int hands = 1; hands <= 4; hands++) {
            StringBuilder text = new StringBuilder("road " + hands + ";person 1;person 1;" + many(5, "thing 0 0;") + "thing 0 0;has 0 5");
            for (int i = 0; i < hands - 1; i++) {
                text.append(";has 1 ").append(i);
            }
            x = on(text.toString());
            due("the last hand of " + hands, x.give(0, 1, 5), hands);
            x = on(text.toString());
            x.take(1, 4);
            due("no hand of " + hands, x.give(0, 1, 5), -1);
            // the first one's hands do not matter
            x = on(text.toString());
            if (hands > 1) {
                due("to one who has fewer", x.give(1, 0, 0), 2);
            } else {
                due("nothing to give", x.give(1, 0, 0), -1);
            }
        }
    }

    private static void robConditions() {
        says("ROB (a THING that is not GONE is)");
        LoadRoad x = mixed();
        due("of one between two", x.rob(0), 0);
        due("of one at PLACE 1", x.rob(1), 1);
        due("of one in the TOWN", x.rob(2), 2);
        due("GONE", x.rob(3), -2);
        due("that lies at PLACE 1", x.rob(4), 11);
        due("that lies in the TOWN", x.rob(5), 12);
        due("all are", x.count(9), 63);
        due("nothing in the TOWN", x.count(8), 0);
    }

    private static void actsInTown() {
        says("These are so in the TOWN, too");
        LoadRoad x = on("road 1;stage 1;person 1;person 1;person 1;thing 0 1;thing 0 2;has 0 0;has 1 1");
        x.day();
        due("DROP", x.drop(0, 0), 0);
        due("TAKE", x.take(2, 0), 1);
        due("GIVE", x.give(1, 0, 1), 1);
        due("full hands", x.give(2, 0, 0), -1);
        due("ROB", x.rob(0), 2);
        due("a DAY", x.day(), 0);
        due("ACTS", x.count(11), 6);
    }

    private static void lastTwenty() {
        says("The last 20 ACTS can be UNDONE, the last first");
        LoadRoad x = on("road 1;stage 60;stage 60;person 1;person 1;thing 0 0;thing 0 0;has 0 0");
        for (int i = 1; i <= 25; i++) {
            x.day();
            due("ACTS " + i, x.count(11), Math.min(i, 20));
        }
        for (int i = 19; i >= 0; i--) {
            due("more that can be", x.undo(), i);
            due("DAY", x.count(6), i + 5);
            due("gone", x.person(0, 2), i + 5);
        }
        due("none", x.undo(), -2);
        due("DAY 5 it stays", x.count(6), 5);
        // round and round: 20 are kept whatever was undone between
        for (int round = 0; round < 7; round++) {
            days(x, 13);
            for (int i = 0; i < 6; i++) {
                x.undo();
            }
        }
        due("DAY 54", x.count(6), 54);
        due("ACTS", x.count(11), 14);
        for (int i = 13; i >= 0; i--) {
            due("undo", x.undo(), i);
            due("DAY then", x.count(6), 40 + i);
        }
        due("none then", x.undo(), -2);
        // each kind of ACT is one, and undone is what it was
        x = on("road 1;stage 60;person 1;person 1;thing 0 0;thing 0 0;has 0 0");
        x.drop(0, 0);
        x.take(1, 0);
        x.give(1, 0, 0);
        x.rob(1);
        x.day();
        due("five", x.count(11), 5);
        due("the DAY", x.undo() + 10 * x.count(6), 4);
        due("the robbery", x.undo() + 10 * x.thing(1, 2), 103);
        due("the gift", x.undo() + 10 * x.thing(0, 2), 12);
        due("what was taken", x.undo() + 10 * x.thing(0, 2), 101);
        due("what was dropped", x.undo() + 10 * x.thing(0, 2), 0);
        // no other call is an ACT, and what they did stays
        rule(x, "carry 1");
        x.day();
        x.force(0);
        x.seed(9);
        x.note(1, 0, 0);
        due("one ACT", x.count(11), 1);
        due("the DAY is undone", x.undo(), 0);
        due("not the RULE IN FORCE", x.count(5), 0);
        due("nor x", x.count(12), 9);
        due("nor the NOTE", x.count(10), 1);
    }

    // ---- the calls --------------------------------------------------------------------------------

    private static void personCall() {
        says("Of a PERSON what 0: PACE, 1: PLACE (the last one they were at), 2: how far they have gone from it,"
                + " 3: THINGS they have, as bits, 4: WEIGHT of these, 5: WORTH of these. NONE without these");
        LoadRoad x = mixed();
        int[][] want = {{1, 0, 2, 1, 3, 10}, {2, 1, 0, 2, 0, 20}, {6, 2, 0, 4, 0, 30}, {2, 1, 0, 0, 0, 0}};
        for (int p = 0; p < 4; p++) {
            for (int what = 0; what < 6; what++) {
                due("person " + p + " what " + what, x.person(p, what), want[p][what]);
            }
            for (int what : outside(0, 5)) {
                due("person " + p + " what " + what, x.person(p, what), -1);
            }
        }
        for (int p : outside(0, 3)) {
            for (int what = 0; what < 6; what++) {
                due("person " + p + " what " + what, x.person(p, what), -1);
            }
        }
        due("one PERSON alone", on("road 0;person 1").person(1, 0), -1);
        due("nobody", on("road 0").person(0, 0), -1);
        due("no ROAD", new LoadRoad().person(0, 0), -1);
        x = on("road 4;stage 60;person 20;thing 9 50;thing 9 50;thing 9 50;thing 9 50;has 0 0;has 0 1;has 0 2;has 0 3");
        due("most WEIGHT", x.person(0, 4), 36);
        due("most WORTH", x.person(0, 5), 200);
        asks("person", DayEdges::mixed, y -> y.person(1, 3), 2);
    }

    private static void thingCall() {
        says("Of a THING what 0: WEIGHT, 1: WORTH, 2: where it is: a PERSON who has it, 10 and a PLACE at which it lies,"
                + " or NONE: GONE. -2 without these");
        LoadRoad x = mixed();
        int[][] want = {{3, 10, 0}, {0, 20, 1}, {0, 30, 2}, {9, 40, -1}, {0, 5, 11}, {0, 7, 12}};
        for (int t = 0; t < 6; t++) {
            for (int what = 0; what < 3; what++) {
                due("thing " + t + " what " + what, x.thing(t, what), want[t][what]);
            }
            for (int what : outside(0, 2)) {
                due("thing " + t + " what " + what, x.thing(t, what), -2);
            }
        }
        for (int t : outside(0, 5)) {
            for (int what = 0; what < 3; what++) {
                due("thing " + t + " what " + what, x.thing(t, what), -2);
            }
        }
        due("one THING alone", on("road 0;thing 1 1").thing(1, 2), -2);
        due("none", on("road 0").thing(0, 2), -2);
        due("no ROAD", new LoadRoad().thing(0, 2), -2);
        x = on("road 1;" + many(8, "stage 1;") + "person 1;thing 0 0;has 0 0");
        days(x, 8);
        x.drop(0, 0);
        due("at the last PLACE of all", x.thing(0, 2), 18);
        asks("thing", DayEdges::mixed, y -> y.thing(3, 2), -1);
    }

    private static void stageCall() {
        says("FURLONGS of a STAGE; NONE without it");
        LoadRoad x = on("road 0;stage 1;stage 60;stage 7");
        due("0", x.stage(0), 1);
        due("1", x.stage(1), 60);
        due("2", x.stage(2), 7);
        for (int stage : outside(0, 2)) {
            due("stage " + stage, x.stage(stage), -1);
        }
        x = on("road 0;" + many(7, "stage 5;") + "stage 6");
        due("7", x.stage(7), 6);
        due("8", x.stage(8), -1);
        due("none", on("road 0").stage(0), -1);
        due("no ROAD", new LoadRoad().stage(0), -1);
        // fewer than there were
        road(x, "road 0;stage 3");
        due("the second one is none now", x.stage(1), -1);
    }

    private static void dayCall() {
        says("A DAY: who comes to a PLACE on it, as bits");
        LoadRoad x = mixed();
        // 0 has 3 of 7 then; 1 and 3 have 2 of 6; 2 is in the TOWN
        due("nobody", x.day(), 0);
        due("nobody", x.day(), 0);
        due("1 and 3 with nothing to weigh", x.day(), 10);
        due("nobody", x.day(), 0);
        due("0 by 1 a day, 7 in all", x.day(), 1);
        due("ACTS", x.count(11), 10);
    }

    private static void dropCall() {
        says("DROP: how many THINGS they have then; NONE, and nothing happens, without these");
        refused("between two", DayEdges::mixed, x -> x.drop(0, 0), -1);
        for (int thing = 0; thing < 6; thing++) {
            int t = thing;
            refused("by one who has none, thing " + t, DayEdges::mixed, x -> x.drop(3, t), -1);
            if (t != 1) {
                refused("what they have not, thing " + t, DayEdges::mixed, x -> x.drop(1, t), -1);
            }
            if (t != 2) {
                refused("what they have not in the TOWN, thing " + t, DayEdges::mixed, x -> x.drop(2, t), -1);
            }
        }
        for (int t : outside(0, 5)) {
            refused("thing " + t, DayEdges::mixed, x -> x.drop(1, t), -1);
        }
        for (int p : outside(0, 3)) {
            refused("person " + p, DayEdges::mixed, x -> x.drop(p, 1), -1);
            // a GONE one is nobody's, not even that of person NONE
            refused("person " + p + " what is GONE", DayEdges::mixed, x -> x.drop(p, 3), -1);
        }
        // where it lies is no PERSON
        refused("person 11 what lies at PLACE 1", DayEdges::mixed, x -> x.drop(11, 4), -1);
        refused("without a ROAD", LoadRoad::new, x -> x.drop(0, 0), -1);
        due("twice", twiceDropped(), -1);
    }

    private static int twiceDropped() {
        LoadRoad x = mixed();
        x.drop(1, 1);
        return x.drop(1, 1);
    }

    private static LoadRoad full() {
        LoadRoad x = mixed();
        x.take(1, 4);
        x.drop(1, 4);
        x.take(3, 4);
        x.give(3, 1, 4);
        x.undo();
        x.give(1, 3, 1);
        return x;
    }

    private static void takeCall() {
        says("TAKE: how many THINGS they have then; NONE, and nothing happens, without these");
        for (int thing = 0; thing < 6; thing++) {
            int t = thing;
            refused("between two, thing " + t, DayEdges::mixed, x -> x.take(0, t), -1);
            if (t != 4) {
                refused("not there, thing " + t, DayEdges::mixed, x -> x.take(3, t), -1);
                refused("not there, or had, thing " + t, DayEdges::mixed, x -> x.take(1, t), -1);
            }
            if (t != 5) {
                refused("not in the TOWN, thing " + t, DayEdges::mixed, x -> x.take(2, t), -1);
            }
        }
        for (int t : outside(0, 5)) {
            refused("thing " + t, DayEdges::mixed, x -> x.take(3, t), -1);
        }
        for (int p : outside(0, 3)) {
            refused("person " + p, DayEdges::mixed, x -> x.take(p, 4), -1);
        }
        refused("between two, at the gate they were at last", DayEdges::startedFromGate, x -> x.take(0, 0), -1);
        refused("full hands", () -> on("road 1;stage 4;person 1;thing 0 0;thing 0 0;has 0 0"), x -> x.take(0, 1), -1);
        refused("no hands", () -> on("road 0;stage 4;person 1;thing 0 0"), x -> x.take(0, 0), -1);
        refused("of another there", DayEdges::full, x -> x.take(1, 4), -1);
        refused("without a ROAD", LoadRoad::new, x -> x.take(0, 0), -1);
    }

    private static LoadRoad startedFromGate() {
        LoadRoad x = on("road 2;stage 4;person 1;person 1;thing 0 0;thing 0 0;has 1 1");
        x.day();
        return x;
    }

    private static void giveCall() {
        says("GIVE: how many THINGS the second one has then; NONE, and nothing happens, without these (unlike)");
        refused("to oneself", DayEdges::mixed, x -> x.give(1, 1, 1), -1);
        refused("from one between two", DayEdges::mixed, x -> x.give(0, 1, 0), -1);
        refused("to one between two", DayEdges::mixed, x -> x.give(1, 0, 1), -1);
        refused("to one at another PLACE", DayEdges::mixed, x -> x.give(1, 2, 1), -1);
        refused("from one at another PLACE", DayEdges::mixed, x -> x.give(2, 1, 2), -1);
        refused("both between two, on one STAGE", DayEdges::startedFromGate, x -> x.give(1, 0, 1), -1);
        for (int thing = 0; thing < 6; thing++) {
            int t = thing;
            refused("by one who has none, thing " + t, DayEdges::mixed, x -> x.give(3, 1, t), -1);
            if (t != 1) {
                refused("what they have not, thing " + t, DayEdges::mixed, x -> x.give(1, 3, t), -1);
            }
        }
        for (int t : outside(0, 5)) {
            refused("thing " + t, DayEdges::mixed, x -> x.give(1, 3, t), -1);
        }
        for (int p : outside(0, 3)) {
            refused("from person " + p, DayEdges::mixed, x -> x.give(p, 1, 3), -1);
            refused("to person " + p, DayEdges::mixed, x -> x.give(1, p, 1), -1);
        }
        refused("to full hands", () -> on("road 1;person 1;person 1;thing 0 0;thing 0 0;has 0 0;has 1 1"),
                x -> x.give(0, 1, 0), -1);
        refused("without a ROAD", LoadRoad::new, x -> x.give(0, 1, 0), -1);
        LoadRoad x = on("road 4;person 1;person 1;thing 0 0;thing 0 0;thing 0 0;thing 0 0;has 0 0;has 1 1;has 1 2;has 1 3");
        due("the fourth", x.give(0, 1, 0), 4);
    }

    private static void robCall() {
        says("ROB: where it was, as told of a THING; -2, and nothing happens, without it, or if it is GONE");
        refused("GONE", DayEdges::mixed, x -> x.rob(3), -2);
        for (int t : outside(0, 5)) {
            refused("thing " + t, DayEdges::mixed, x -> x.rob(t), -2);
        }
        refused("none told", () -> on("road 1;person 1"), x -> x.rob(0), -2);
        refused("without a ROAD", LoadRoad::new, x -> x.rob(0), -2);
        LoadRoad x = on("road 1;" + many(8, "stage 1;") + "person 1;thing 0 0;thing 0 0;has 0 0");
        due("at the gate", x.rob(1), 10);
        days(x, 8);
        x.drop(0, 0);
        due("at the last PLACE of all", x.rob(0), 18);
        due("both GONE", x.count(9), 3);
        due("no THING told is not GONE", on("road 0").count(9), 0);
    }

    private static void undoCall() {
        says("The last ACT is UNDONE: how many more can be; -2, and nothing happens: none can");
        refused("a new object", LoadRoad::new, LoadRoad::undo, -2);
        refused("a new ROAD", () -> on("road 1;stage 4;person 1"), LoadRoad::undo, -2);
        refused("another ROAD", () -> {
            LoadRoad x = mixed();
            x.end(0);
            road(x, "road 1;stage 4;person 1");
            return x;
        }, LoadRoad::undo, -2);
        refused("all undone", () -> {
            LoadRoad x = mixed();
            for (int i = 0; i < 5; i++) {
                x.undo();
            }
            return x;
        }, LoadRoad::undo, -2);
        refused("twenty undone", () -> {
            LoadRoad x = on("road 1;stage 60;person 1");
            days(x, 30);
            for (int i = 0; i < 20; i++) {
                x.undo();
            }
            return x;
        }, LoadRoad::undo, -2);
        LoadRoad x = mixed();
        for (int i = 4; i >= 0; i--) {
            due("more", x.undo(), i);
        }
        due("DAY 0", x.count(6), 0);
        due("all as told", x.person(2, 3), 36);
        // what was undone is not kept
        x.day();
        due("one ACT", x.count(11), 1);
        due("is undone", x.undo(), 0);
    }
}
