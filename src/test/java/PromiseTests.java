/** By hand, promise for promise: ordinary inputs, the edges the document names, wrong inputs. */
public final class PromiseTests extends Bench {

    private static void due(int promise, String what, int got, int want) {
        due("promise " + promise + ": " + what, got, want);
    }

    /** Two on a road of two stages: 0 goes 2 a day with thing 0, 1 goes 4 with thing 2; 1 lies. */
    private static final String TWO =
            "road 2;stage 6;stage 3;person 2;person 4;thing 2 8;thing 0 5;thing 3 1;has 0 0;has 1 2";

    public static void main(String[] args) {
        newObject();
        feed();
        end();
        road();
        roadFaults();
        rule();
        ruleFaults();
        ruleWords();
        ruleSums();
        force();
        person();
        thing();
        stage();
        day();
        dayByRule();
        drop();
        take();
        give();
        rob();
        undo();
        ahead();
        comes();
        wealth();
        far();
        load();
        had();
        exchange();
        robbed();
        game();
        pence();
        note();
        ruled();
        look();
        seed();
        thieves();
        count();
        image();
        back();
        wildArguments();
        finish();
    }

    private static void newObject() {
        LoadRoad x = new LoadRoad();
        due(1, "NONE", LoadRoad.NONE, -1);
        int[] want = {0, 0, 0, 0, 0, -1, 0, 0, 0, 0, 0, 0, 0, 0};
        for (int i = 0; i < want.length; i++) {
            due(1, "count " + i, x.count(i), want[i]);
        }
        due(1, "day", x.day(), -1);
        due(1, "wealth", x.wealth(0), -1);
        due(1, "ruled", x.ruled(0), -3);
        due(1, "look", x.look(0, 0), -1);
        due(1, "robbed", x.robbed(1, 0), -2);
        due(1, "thieves", x.thieves(1, 1, 1, 0), -1);
    }

    private static void feed() {
        LoadRoad x = new LoadRoad();
        for (int i = 1; i <= 20; i++) {
            due(2, "feed " + i, x.feed(i, i, i, i, i), 20 * i);
        }
        due(2, "a feed too many", x.feed(0, 0, 0, 0, 0), -1);
        due(2, "none came", x.count(13), 400);
        x.end(381);
        due(2, "20 into 19", x.feed(0, 0, 0, 0, 0), -1);
        x.end(380);
        due(2, "20 into 20", x.feed(0, 0, 0, 0, 0), 400);
        x.end(0);
        // 'road' ' 3  ' and blanks: the highest byte first
        due(2, "road", x.feed(0x726f6164, 0x20332020, 0x20202020, 0x20202020, 0x20202020), 20);
        due(2, "road()", x.road(), 0);
        due(2, "hands", x.count(0), 3);
        x.feed(0x726f6164, 0x2033E9FF, -1, -1, -1);
        due(2, "bytes above 127", x.road(), fault(6, 0));
    }

    private static void end() {
        LoadRoad x = new LoadRoad();
        due(3, "end 0", x.end(0), 0);
        due(3, "end 1 of none", x.end(1), -1);
        x.feed(1, 2, 3, 4, 5);
        due(3, "end -1", x.end(-1), -1);
        due(3, "end 21", x.end(21), -1);
        due(3, "nothing happened", x.count(13), 20);
        due(3, "end 20", x.end(20), 20);
        due(3, "end 7", x.end(7), 7);
        due(3, "end 8", x.end(8), -1);
        due(3, "7 then", x.count(13), 7);
    }

    private static void road() {
        LoadRoad x = new LoadRoad();
        due(4, "nothing but hands", road(x, "road 0"), 0);
        due(4, "tape", x.count(13), 0);
        due(4, "blanks", road(x, "  road4 ;stage1;  person   20;thing 9 50;thing9 0;has0 1  "), 1);
        due(4, "hands", x.count(0), 4);
        due(4, "stages", x.count(1), 1);
        due(4, "things", x.count(3), 2);
        due(4, "digits", road(x, "road 00004;stage 00060"), 0);
        due(4, "furlongs", x.stage(0), 60);
        String full = "road 4;" + many(8, "stage 60;") + many(4, "person 20;") + many(6, "thing 9 50;")
                + "has 0 0;has 0 1;has 0 2;has 0 3;has 3 4;has 2 5";
        due(4, "the most there is", road(x, full), 4);
        due(4, "where", x.thing(5, 2), 2);
        x = on(TWO, "carry 1");
        x.seed(77);
        x.note(3, 0, 1);
        x.day();
        due(4, "a fault", road(x, "road 9"), fault(5, 1));
        due(4, "all stays: day", x.count(6), 1);
        due(4, "all stays: notes", x.count(10), 1);
        due(4, "all stays: acts", x.count(11), 1);
        due(4, "but the tape", x.count(13), 0);
        due(4, "another", road(x, "road 1;person 1;person 2;person 3"), 3);
        due(4, "notes", x.count(10), 0);
        due(4, "undone", x.count(11), 0);
        due(4, "rule", x.count(5), 0);
        due(4, "x", x.count(12), 77);
        due(4, "day", x.count(6), 0);
        due(4, "stages", x.count(1), 0);
        due(4, "things", x.count(3), 0);
        due(4, "gone", x.count(9), 0);
        due(4, "who is in the town", x.count(7), 7);
    }

    private static void roadFault(String text, int place, int kind) {
        LoadRoad x = on("road 2;person 5");
        due(4, "'" + text + "'", road(x, text), fault(place, kind));
        due(4, "hands stay behind '" + text + "'", x.count(0), 2);
        due(4, "people stay behind '" + text + "'", x.count(2), 1);
        due(4, "tape behind '" + text + "'", x.count(13), 0);
    }

    private static void roadFaults() {
        roadFault("", 0, 0);
        roadFault("   ", 3, 0);
        roadFault("road", 4, 0);
        roadFault("road  ", 6, 0);
        roadFault("road 1;", 7, 0);
        roadFault("road 1; ", 8, 0);
        roadFault("road 1;;", 7, 0);
        roadFault("Road 1", 0, 0);
        roadFault("way 1", 0, 0);
        roadFault("road x", 5, 0);
        roadFault("road -1", 5, 0);
        roadFault("road 1 1", 7, 0);
        roadFault("road 1 stage 2", 7, 0);
        roadFault("road 1stage 2", 6, 0);
        roadFault("road 1;stages 2", 7, 0);
        roadFault("road 1;carry 2", 7, 0);
        roadFault("road 1;thing 1", 14, 0);
        roadFault("road 1;thing 1;", 14, 0);
        roadFault("road 1;thing 1,1", 14, 0);
        roadFault("road\t1", 4, 0);
        roadFault("road 5", 5, 1);
        roadFault("road 000001", 5, 1);
        roadFault("road 99999999999999999999", 5, 1);
        roadFault("road 4294967297", 5, 1);
        roadFault("road 1;stage 0", 13, 1);
        roadFault("road 1;stage 61", 13, 1);
        roadFault("road 1;person 0", 14, 1);
        roadFault("road 1;person 21", 14, 1);
        roadFault("road 1;thing 10 5", 13, 1);
        roadFault("road 1;thing 12", 13, 1);
        roadFault("road 1;thing 1 51", 15, 1);
        roadFault("road 1;has 0 0", 11, 1);
        roadFault("road 1;thing 1 1;has 0 0;person 1", 21, 1);
        roadFault("road 1;person 1;has 1 0", 20, 1);
        roadFault("road 1;person 1;has 0", 21, 0);
        roadFault("road 1;person 1;has 0 0;thing 1 1", 22, 1);
        roadFault("road 0;person 1;thing 1 1;has 0 x", 30, 1);
        roadFault("road 2;person 1;person 1;thing 1 1;has 0 0;has 1 0", 49, 1);
        roadFault("road 2;person 1;" + many(6, "thing 1 1;") + "has 0 6", 82, 1);
        roadFault("road 2;" + many(4, "person 1;") + "thing 1 1;has 4 0", 57, 1);
        roadFault("road 1;person 1;thing 1 1;thing 1 1;has 0 0;has 0 1", 48, 1);
        roadFault("stage 5;road 1", 0, 4);
        roadFault(" has 0 0", 1, 4);
        roadFault("road 1; road x", 8, 4);
        roadFault("road 1;" + many(8, "stage 1;") + "stage x", 71, 4);
        roadFault("road 1;" + many(8, "stage 1;") + "stagex", 71, 0);
        roadFault("road 1;" + many(4, "person 1;") + "person 1", 43, 4);
        roadFault("road 1;" + many(6, "thing 1 1;") + "  thing 1 1", 69, 4);
        roadFault("road 1;stage 99;road 5", 13, 1);
    }

    private static void rule() {
        LoadRoad x = new LoadRoad();
        put(x, "carry         ");
        x.end(5);
        due(5, "what was cut off is not there", x.rule(), fault(5, 0));
        due(5, "400 bytes, and the end behind them", rule(x, "carry" + many(395, " ")), fault(400, 0));
        due(4, "likewise of a road", road(x, "road 1;" + many(393, " ")), fault(400, 0));
        due(5, "first", rule(x, "carry 1"), 0);
        due(5, "tape", x.count(13), 0);
        due(5, "wide", rule(x, "  carry1+ 2 *weight if  not[worth<=3or has=1 ]and 1 >=0 ; carry day "), 1);
        due(5, "a fault", rule(x, "carry"), fault(5, 0));
        due(5, "tape then", x.count(13), 0);
        due(5, "not counted", x.count(4), 2);
        due(5, "12 clauses", rule(x, many(11, "carry 1;") + "carry 1"), 2);
        due(5, "60 values", rule(x, "carry 1" + many(59, "+1")), 3);
        due(5, "10 deep", rule(x, "carry 1 if " + many(5, "not[") + "1=1" + many(5, "]")), 4);
        due(5, "sixth", rule(x, "carry 99999 if 1=1"), 5);
        put(x, "carry 7");
        due(5, "seventh", x.rule(), -1);
        due(5, "nothing happens", x.count(13), 7);
        due(5, "still 6", x.count(4), 6);
        put(new LoadRoad(), "");
        x.end(0);
        due(5, "a seventh with a fault", x.rule(), -1);
    }

    private static void ruleFault(String text, int place, int kind) {
        LoadRoad x = new LoadRoad();
        due(5, "'" + text + "'", rule(x, text), fault(place, kind));
        due(5, "rules behind '" + text + "'", x.count(4), 0);
        due(5, "tape behind '" + text + "'", x.count(13), 0);
    }

    private static void ruleFaults() {
        ruleFault("", 0, 0);
        ruleFault("carry ", 6, 0);
        ruleFault("carrys 1", 0, 0);
        ruleFault("Carry 1", 0, 0);
        ruleFault("carrya 1", 0, 0);
        ruleFault("carryz 1", 0, 0);
        ruleFault("carry{1", 5, 0);
        ruleFault("carry`1", 5, 0);
        ruleFault("carry /1", 6, 0);
        ruleFault("carry :1", 6, 0);
        ruleFault("carry 1;", 8, 0);
        ruleFault("carry if", 6, 0);
        ruleFault("carry not", 6, 0);
        ruleFault("carry 1 1", 8, 0);
        ruleFault("carry 1 weight", 8, 0);
        ruleFault("carry 1weight", 7, 0);
        ruleFault("carry weights", 6, 0);
        ruleFault("carry wei", 6, 0);
        ruleFault("carry -1", 6, 0);
        ruleFault("carry 1+-1", 8, 0);
        ruleFault("carry 1+", 8, 0);
        ruleFault("carry 1 or 2", 8, 0);
        ruleFault("carry 1 = 1", 8, 0);
        ruleFault("carry [1]", 6, 0);
        ruleFault("carry 1 ifnot 1=1", 8, 0);
        ruleFault("carry 1 if", 10, 0);
        ruleFault("carry 1 if 1", 12, 0);
        ruleFault("carry 1 if 1=", 13, 0);
        ruleFault("carry 1 if 1==1", 13, 0);
        ruleFault("carry 1 if 1=<1", 13, 0);
        ruleFault("carry 1 if 1< =1", 14, 0);
        ruleFault("carry 1 if 1<>1", 13, 0);
        ruleFault("carry 1 if 1<2<3", 14, 0);
        ruleFault("carry 1 if 1=1 and", 18, 0);
        ruleFault("carry 1 if 1=1 and or", 19, 0);
        ruleFault("carry 1 if 1=not 1", 13, 0);
        ruleFault("carry 1 if [1=1", 15, 0);
        ruleFault("carry 1 if [1=1;carry 1", 15, 0);
        ruleFault("carry 1 if 1=1]", 14, 0);
        ruleFault("carry 1 if [1]=1", 13, 0);
        ruleFault("carry 1 if [1=1] + 1 = 2", 17, 0);
        ruleFault("carry 1 if []", 12, 0);
        ruleFault("carry 1 if 1=1 if 1=1", 15, 0);
        ruleFault("carry 1 if 1=1 xor 1=1", 15, 0);
        ruleFault("carry 123456", 6, 1);
        ruleFault("carry 1 if 1=000000", 13, 1);
        ruleFault("carry 1 if " + many(11, "["), 21, 2);
        ruleFault("carry 1 if " + many(10, "not ") + "not", 51, 2);
        ruleFault("carry 1 if " + many(10, "not ") + "[1=1]", 51, 2);
        ruleFault("carry 1 if " + many(10, "not ") + "nots", 51, 0);
        ruleFault("carry 1" + many(60, "+1"), 126, 3);
        ruleFault("carry 1" + many(59, "+1") + "+wei", 126, 0);
        ruleFault("carry 1" + many(59, "+1") + "+100000", 126, 1);
        ruleFault("carry 1" + many(59, "+1") + "+[", 126, 0);
        ruleFault("carry 1" + many(58, "+1") + " if 1 < 1", 129, 3);
        ruleFault("carry 1" + many(57, "+1") + " if 1 < 1", 129, 3);
        ruleFault("carry 1" + many(58, "+1") + " if 1 ; 1", 129, 0);
        ruleFault("carry 1" + many(29, "+1") + ";carry 1" + many(30, "+1"), 132, 3);
        ruleFault(many(12, "carry 1;") + "carry 1", 96, 4);
        ruleFault(many(12, "carry 1;") + " carry", 97, 4);
        ruleFault(many(12, "carry 1;") + "carr", 96, 0);
        ruleFault(many(12, "carry 1;"), 96, 0);
        ruleFault("carry 1 if 100000=wei;carry", 11, 1);
    }

    private static void ruleWords() {
        so("person=0");
        so("thing=1");
        so("weight=4");
        so("worth=6");
        so("has=0");
        so("many=1");
        so("load=2");
        so("place=0");
        so("left=2");
        so("pace=3");
        so("road=5");
        so("day=0");
        LoadRoad x = on("road 3;stage 1;stage 8;person 1;person 4;thing 1 1;thing 2 2;has 1 1",
                "carry 1 if person=1 and thing=1 and has=1 and many=1 and load=2 and place=0 and left=2"
                        + " and pace=4 and road=1 and day=0");
        x.day();
        due(5, "person 1 came on with thing 1", x.thing(1, 2), 1);
        due(5, "nobody has thing 0", x.thing(0, 2), 10);
        due(5, "place 1", x.person(1, 1), 1);
        put(x, "carry 2 if place=1 and left=1 and road=8 and day=1");
        due(5, "rule 1", x.rule(), 1);
        x.force(1);
        x.day();
        due(5, "behind the first stage", x.thing(1, 2), 1);
        x.undo();
        x.force(0);
        x.day();
        due(5, "left there", x.thing(1, 2), 11);
    }

    private static void ruleSums() {
        so("1+2*3=7");
        so("9-3-2=4");
        so("9-3+2=8");
        so("2*3+4*5=26");
        so("20/3/2=3");
        so("20/3*2=12");
        so("20%7%4=2");
        so("2*7%4=2");
        so("7/0=0");
        so("7%0=0");
        so("1-5*2+1<0");
        so("0-7/2=0-3");
        so("1<2");
        so("1<=1");
        so("2>=2");
        so("3>2");
        so("not 1<1");
        so("not 1>1");
        so("not 2<=1");
        so("not 1>=2");
        so("not not 1=1");
        so("1=1 or 1=2 and 1=3");
        so("1=3 and 1=2 or 1=1");
        so("not[[1=1 or 1=1]and 1=2]");
        so("not 1=2 and 1=1");
        so("not[not 1=2 and 1=2]");
        so("1=2 or 1=2 or 1=1");
        // 64 bits: more than 32, and round at the end
        so("99999*99999/99999=99999");
        long high = 99999L * 99999 * 99999 * 99998;
        String highText = "99999*99999*99999*99998";
        so(highText + (high < 0 ? "<0" : ">0"));
        int by = 20000;
        for (; 99999L * 99999 * 99999 * by >= 0; by++) {
            // the first that has gone round to below 0
        }
        long low = 99999L * 99999 * 99999 * by;
        String lowText = "99999*99999*99999*" + by;
        so(lowText + "<0");
        so(lowText + "%7=0-" + -(low % 7));
        so(lowText + "/99999/99999/99999=0-" + -(low / 99999 / 99999 / 99999));
    }

    private static void force() {
        LoadRoad x = new LoadRoad();
        due(6, "none such", x.force(0), -2);
        due(6, "none", x.force(-1), -1);
        due(6, "below", x.force(-2), -2);
        rule(x, "carry 1");
        rule(x, "carry 0");
        due(6, "1", x.force(1), -1);
        due(6, "2 is none such", x.force(2), -2);
        due(6, "nothing happened", x.count(5), 1);
        due(6, "0", x.force(0), 1);
        due(6, "0 again", x.force(0), 0);
        due(6, "none again", x.force(-1), 0);
        due(6, "none then", x.count(5), -1);
    }

    private static void person() {
        LoadRoad x = on(TWO);
        int[] first = {2, 0, 0, 1, 2, 8};
        int[] second = {4, 0, 0, 4, 3, 1};
        for (int i = 0; i < 6; i++) {
            due(7, "person 0 what " + i, x.person(0, i), first[i]);
            due(7, "person 1 what " + i, x.person(1, i), second[i]);
        }
        due(7, "what 6", x.person(0, 6), -1);
        due(7, "what -1", x.person(0, -1), -1);
        due(7, "person 2", x.person(2, 0), -1);
        due(7, "person -1", x.person(-1, 0), -1);
        x.day();
        due(7, "gone", x.person(0, 2), 2);
        due(7, "from", x.person(0, 1), 0);
        days(x, 3);
        due(7, "there", x.person(0, 1), 1);
        due(7, "anew", x.person(0, 2), 0);
    }

    private static void thing() {
        LoadRoad x = on(TWO);
        due(8, "weight", x.thing(2, 0), 3);
        due(8, "worth", x.thing(2, 1), 1);
        due(8, "had", x.thing(2, 2), 1);
        due(8, "lies", x.thing(1, 2), 10);
        x.rob(1);
        due(8, "gone", x.thing(1, 2), -1);
        due(8, "weight of it", x.thing(1, 0), 0);
        due(8, "worth of it", x.thing(1, 1), 5);
        due(8, "what 3", x.thing(0, 3), -2);
        due(8, "what -1", x.thing(0, -1), -2);
        due(8, "thing 3", x.thing(3, 0), -2);
        due(8, "thing -1", x.thing(-1, 0), -2);
        days(x, 5);
        x.drop(1, 2);
        due(8, "lies in the town", x.thing(2, 2), 12);
    }

    private static void stage() {
        LoadRoad x = on(TWO);
        due(9, "0", x.stage(0), 6);
        due(9, "1", x.stage(1), 3);
        due(9, "2", x.stage(2), -1);
        due(9, "-1", x.stage(-1), -1);
    }

    private static void day() {
        LoadRoad x = on(TWO);
        // 0 needs 8 by 2 a day, then 5; 1 needs 9 by 4 a day, then 6
        int[] come = {0, 0, 2, 1, 2, 0, 1, 0};
        for (int i = 0; i < come.length; i++) {
            due(10, "day " + i, x.day(), come[i]);
        }
        due(10, "in the town", x.count(7), 3);
        due(10, "days", x.count(6), 8);
        due(10, "they stay", x.person(0, 1), 2);
        x = on("road 1;person 3;thing 0 1", "carry 1");
        due(10, "the gate is the town", x.day(), 0);
        due(10, "nobody carries there", x.thing(0, 2), 10);
        due(10, "but a day it was", x.count(6), 1);
        x = on("road 0");
        due(10, "nobody", x.day(), 0);
        // what is robbed on the way makes it shorter, from the next day on
        x = on("road 1;stage 3;person 2;thing 9 1;has 0 0");
        days(x, 4);
        due(10, "8 gone of 12", x.person(0, 2), 8);
        x.rob(0);
        due(10, "not there yet", x.person(0, 1), 0);
        due(10, "now", x.day(), 1);
        due(10, "the more is lost", x.person(0, 2), 0);
        // the last day, though no run of 512 calls comes so far
        x = on("road 0;stage 1;person 1");
        days(x, 998);
        due(10, "day 998", x.day(), 0);
        due(10, "day 999", x.day(), -1);
        due(10, "999 it stays", x.count(6), 999);
        due(10, "asked, it goes on", x.comes(0), 999);
        // just as much is enough
        x = on("road 1;stage 6;person 4;thing 2 1;has 0 0");
        due(10, "4 of 8", x.day(), 0);
        due(10, "8 of 8", x.day(), 1);
    }

    private static void dayByRule() {
        // hands 1: thing 0 is wanted, but the hand is full as it is weighed; thing 1 is left then
        LoadRoad x = on("road 1;stage 9;person 1;thing 1 1;thing 1 0;has 0 1", "carry worth");
        x.day();
        due(10, "stays", x.thing(0, 2), 10);
        due(10, "left", x.thing(1, 2), 10);
        // by numbers: 0 first, so that 1 finds nothing
        x = on("road 2;stage 9;stage 2;person 3;person 9;thing 0 1;thing 0 1", "carry 1");
        x.day();
        due(10, "person 0 has both", x.person(0, 3), 3);
        due(10, "person 1 has none", x.person(1, 3), 0);
        due(10, "person 1 went on", x.person(1, 1), 1);
        // who is between two neither leaves nor takes
        put(x, "carry 0");
        x.rule();
        x.force(1);
        x.day();
        due(10, "still has both", x.person(0, 3), 3);
        x.day();
        x.day();
        due(10, "left both behind the stage", x.thing(0, 2), 11);
        due(10, "and the other", x.thing(1, 2), 11);
        // as all is then: many grows
        x = on("road 4;stage 9;person 9;thing 1 1;thing 1 1;thing 1 1", "carry 2-many-has");
        x.day();
        due(10, "two of them", x.person(0, 3), 3);
        due(10, "not there with 11", x.person(0, 1), 0);
        // no clause that holds: 0, so it lies there
        x = on("road 1;stage 9;person 1;thing 1 1;has 0 0", "carry 1 if day>0");
        x.day();
        due(10, "left", x.thing(0, 2), 10);
        // the first that holds
        x = on("road 1;stage 9;person 1;thing 1 1;has 0 0", "carry 0 if has=1;carry 1");
        x.day();
        due(10, "left by the first", x.thing(0, 2), 10);
        // without a rule all stays
        x.undo();
        x.force(-1);
        x.day();
        due(10, "stays", x.thing(0, 2), 0);
        // weights left are left ahead of the way
        x = on("road 1;stage 4;person 4;thing 9 1;has 0 0", "carry 0");
        due(10, "light", x.day(), 1);
        // what is below 0 is not above 0
        x = on("road 1;stage 4;person 4;thing 9 1;has 0 0", "carry 0-1");
        due(10, "below 0", x.day(), 1);
    }

    private static void drop() {
        LoadRoad x = on("road 2;stage 3;person 3;person 1;thing 0 0;thing 0 0;has 0 0;has 0 1");
        due(11, "not theirs", x.drop(1, 0), -1);
        due(11, "no person", x.drop(2, 0), -1);
        due(11, "person -1", x.drop(-1, 0), -1);
        due(11, "no thing", x.drop(0, 2), -1);
        due(11, "thing -1", x.drop(0, -1), -1);
        due(11, "1", x.drop(0, 1), 1);
        due(11, "lies", x.thing(1, 2), 10);
        due(11, "again", x.drop(0, 1), -1);
        due(11, "an act", x.count(11), 1);
        x.take(1, 1);
        x.day();
        due(11, "between two", x.drop(1, 1), -1);
        due(11, "in the town", x.drop(0, 0), 0);
        due(11, "lies there", x.thing(0, 2), 11);
    }

    private static void take() {
        LoadRoad x = on("road 1;stage 3;person 3;person 1;thing 0 0;thing 0 0;thing 0 0;has 0 0");
        due(12, "hands full", x.take(0, 1), -1);
        due(12, "had by another", x.take(1, 0), -1);
        due(12, "no person", x.take(2, 1), -1);
        due(12, "no thing", x.take(1, 3), -1);
        due(12, "thing -1", x.take(1, -1), -1);
        due(12, "person -1", x.take(-1, 1), -1);
        due(12, "nothing happened", x.count(11), 0);
        due(12, "taken", x.take(1, 1), 1);
        due(12, "had", x.thing(1, 2), 1);
        due(12, "what one has", x.take(1, 1), -1);
        x.drop(1, 1);
        x.day();
        due(12, "between two", x.take(1, 2), -1);
        x.drop(0, 0);
        due(12, "at another place", x.take(0, 2), -1);
        due(12, "in the town", x.take(0, 0), 1);
        due(12, "acts", x.count(11), 5);
        x = on("road 1;stage 3;person 3;thing 0 0");
        x.rob(0);
        due(12, "gone", x.take(0, 0), -1);
    }

    private static void give() {
        LoadRoad x = on("road 1;stage 3;person 3;person 3;person 1;thing 0 0;thing 0 0;thing 0 0;has 0 0;has 1 1");
        due(13, "hands full", x.give(0, 1, 0), -1);
        due(13, "oneself", x.give(0, 0, 0), -1);
        due(13, "not theirs", x.give(0, 2, 1), -1);
        due(13, "lies", x.give(0, 2, 2), -1);
        due(13, "nobody", x.give(0, 3, 0), -1);
        due(13, "by nobody", x.give(3, 0, 0), -1);
        due(13, "to -1", x.give(0, -1, 0), -1);
        due(13, "by -1", x.give(-1, 0, 0), -1);
        due(13, "thing 3", x.give(0, 2, 3), -1);
        due(13, "nothing happened", x.count(11), 0);
        due(13, "given", x.give(0, 2, 0), 1);
        due(13, "had", x.thing(0, 2), 2);
        due(13, "given on", x.give(1, 0, 1), 1);
        x.day();
        due(13, "not at one place", x.give(0, 2, 1), -1);
        due(13, "between two", x.give(2, 0, 0), -1);
        due(13, "in the town", x.give(0, 1, 1), 1);
        x = on("road 1;stage 9;person 3;person 3;thing 0 0;has 0 0");
        x.day();
        due(13, "both between two", x.give(0, 1, 0), -1);
        x = on("road 2;stage 9;person 3;person 3;thing 0 0;thing 0 0;has 0 0;has 1 1");
        due(13, "the second one has 2", x.give(0, 1, 0), 2);
    }

    private static void rob() {
        LoadRoad x = on(TWO);
        due(14, "of person 0", x.rob(0), 0);
        due(14, "of the gate", x.rob(1), 10);
        due(14, "again", x.rob(0), -2);
        due(14, "none such", x.rob(3), -2);
        due(14, "-1", x.rob(-1), -2);
        due(14, "gone", x.count(9), 3);
        due(14, "acts", x.count(11), 2);
        due(14, "without it", x.person(0, 4), 0);
        x.day();
        due(14, "of one between two", x.rob(2), 1);
    }

    private static void undo() {
        LoadRoad x = on(TWO, "carry 1");
        due(15, "none", x.undo(), -2);
        x.day();
        due(15, "thing 1 was taken up", x.thing(1, 2), 0);
        x.rob(1);
        x.force(-1);
        x.seed(5);
        x.note(1, 0, 0);
        due(15, "the robbery", x.undo(), 1);
        due(15, "there again", x.thing(1, 2), 0);
        due(15, "the day", x.undo(), 0);
        due(15, "lies again", x.thing(1, 2), 10);
        due(15, "day", x.count(6), 0);
        due(15, "gone", x.person(0, 2), 0);
        due(15, "force stays", x.count(5), -1);
        due(15, "x stays", x.count(12), 5);
        due(15, "notes stay", x.count(10), 1);
        due(15, "none more", x.undo(), -2);
        x.drop(0, 0);
        x.take(1, 0);
        x.give(1, 0, 0);
        x.undo();
        due(15, "given back", x.thing(0, 2), 1);
        x.undo();
        due(15, "not taken", x.thing(0, 2), 10);
        x.undo();
        due(15, "not dropped", x.thing(0, 2), 0);
        days(x, 25);
        due(15, "20 at most", x.count(11), 20);
        for (int i = 19; i >= 0; i--) {
            due(15, "undo", x.undo(), i);
        }
        due(15, "the 21st", x.undo(), -2);
        due(15, "day 5", x.count(6), 5);
        due(15, "place on day 5", x.person(0, 1), 1);
        due(15, "gone on day 5", x.person(0, 2), 2);
        x.drop(9, 9);
        due(15, "no act that did not happen", x.count(11), 0);
    }

    private static void ahead() {
        LoadRoad x = on(TWO);
        due(16, "place now", x.ahead(0, 0, 0), 0);
        due(16, "place in 4", x.ahead(0, 4, 0), 1);
        due(16, "far in 3", x.ahead(0, 3, 1), 6);
        due(16, "place in 100", x.ahead(0, 100, 0), 2);
        due(16, "far in 100", x.ahead(0, 100, 1), 0);
        due(16, "where", x.ahead(2, 100, 2), 1);
        due(16, "what 3", x.ahead(0, 0, 3), -2);
        due(16, "what -1", x.ahead(0, 0, -1), -2);
        due(16, "n 101", x.ahead(0, 101, 0), -2);
        due(16, "n -1", x.ahead(0, -1, 0), -2);
        due(16, "person 2", x.ahead(2, 0, 0), -2);
        due(16, "person 2, far", x.ahead(2, 0, 1), -2);
        due(16, "thing 3", x.ahead(3, 0, 2), -2);
        due(16, "thing -1", x.ahead(-1, 0, 2), -2);
        x.rob(2);
        due(16, "gone", x.ahead(2, 1, 2), -1);
        due(16, "nothing changes", x.count(6), 0);
        due(16, "no act", x.count(11), 1);
        x = on("road 2;stage 6;person 2;thing 2 8;thing 0 5;has 0 0", "carry 0;carry 1");
        due(16, "by the rule", x.ahead(0, 1, 2), 10);
        due(16, "the rule changed nothing", x.thing(0, 2), 0);
    }

    private static void comes() {
        LoadRoad x = on(TWO);
        due(17, "0", x.comes(0), 7);
        due(17, "1", x.comes(1), 5);
        due(17, "2", x.comes(2), -1);
        due(17, "-1", x.comes(-1), -1);
        days(x, 6);
        due(17, "0 still", x.comes(0), 7);
        due(17, "who is there", x.comes(1), 6);
        due(17, "nothing changes", x.count(6), 6);
        // 60 + 60 + 60 + 19 furlongs, one a day: at the begin of day 199, the last of the 200
        x = on("road 0;stage 60;stage 60;stage 60;stage 19;person 1");
        due(17, "199", x.comes(0), 199);
        x = on("road 0;stage 60;stage 60;stage 60;stage 20;person 1");
        due(17, "200 is none of these", x.comes(0), -2);
        x.day();
        due(17, "a day later it is", x.comes(0), 200);
        x = on("road 0;person 1");
        due(17, "without stages", x.comes(0), 0);
    }

    private static void wealth() {
        LoadRoad x = on(TWO);
        due(18, "now", x.wealth(0), 0);
        due(18, "in 4", x.wealth(4), 0);
        due(18, "in 5", x.wealth(5), 1);
        due(18, "in 7", x.wealth(7), 9);
        due(18, "in 100", x.wealth(100), 9);
        due(18, "in 101", x.wealth(101), -1);
        due(18, "in -1", x.wealth(-1), -1);
        days(x, 5);
        x.drop(1, 2);
        due(18, "what lies there", x.wealth(0), 1);
        x = on("road 1;person 1;thing 0 5;thing 0 6;has 0 0");
        due(18, "the gate is the town", x.wealth(0), 11);
        x.rob(1);
        due(18, "gone is not there", x.wealth(9), 5);
    }

    private static void far() {
        LoadRoad x = on(TWO);
        due(19, "nothing", x.far(0, 0), 5);
        due(19, "thing 0", x.far(0, 1), 7);
        due(19, "thing 2", x.far(0, 4), 8);
        due(19, "1 nothing", x.far(1, 0), 3);
        due(19, "1 thing 2", x.far(1, 4), 5);
        due(19, "1 thing 0 and 2", x.far(1, 5), 5);
        due(19, "three", x.far(0, 7), -1);
        due(19, "thing 3", x.far(0, 8), -1);
        due(19, "below 0", x.far(0, -1), -1);
        due(19, "least", x.far(0, Integer.MIN_VALUE), -1);
        due(19, "person 2", x.far(2, 0), -1);
        due(19, "person -1", x.far(-1, 0), -1);
        x.rob(2);
        due(19, "gone ones too", x.far(0, 4), 8);
        x.day();
        due(19, "between two", x.far(0, 0), -1);
        days(x, 3);
        due(19, "from place 1", x.far(0, 0), 2);
        days(x, 9);
        due(19, "in the town", x.far(0, 5), 0);
    }

    private static void load() {
        LoadRoad x = on(TWO);
        // 0 can reach things 0 (2, 8) and 1 (0, 5)
        due(20, "in 7", x.load(0, 7, 0), 3);
        due(20, "in 7 worth", x.load(0, 7, 1), 13);
        due(20, "in 7 days", x.load(0, 7, 2), 7);
        due(20, "in 6", x.load(0, 6, 0), 2);
        due(20, "in 6 days", x.load(0, 6, 2), 5);
        due(20, "in 4", x.load(0, 4, 0), -2);
        due(20, "in 4 worth", x.load(0, 4, 1), -2);
        due(20, "in 60", x.load(0, 60, 0), 3);
        due(20, "what 3", x.load(0, 7, 3), -1);
        due(20, "what -1", x.load(0, 7, -1), -1);
        due(20, "n 0", x.load(0, 0, 0), -1);
        due(20, "n 61", x.load(0, 61, 0), -1);
        due(20, "person 2", x.load(2, 7, 0), -1);
        x.day();
        due(20, "between two", x.load(0, 7, 0), -1);
        // of the same worth the one of fewer days, then the least as bits
        x = on("road 1;stage 4;person 2;thing 3 5;thing 0 5;thing 1 5;thing 0 5");
        due(20, "fewest days", x.load(0, 9, 0), 2);
        // worth nothing: the empty set is the least
        x = on("road 1;stage 4;person 2;thing 0 0");
        due(20, "the least as bits", x.load(0, 9, 0), 0);
        // hands
        x = on("road 1;stage 4;person 2;thing 0 3;thing 0 4;thing 0 50");
        x.rob(2);
        due(20, "one of two, not what is gone", x.load(0, 2, 0), 2);
        due(20, "just in time", x.load(0, 1, 0), -2);
        x = on("road 0;stage 4;person 2;thing 0 3");
        due(20, "without hands", x.load(0, 2, 0), 0);
        x = on("road 1;person 2;thing 9 3");
        due(20, "in the town", x.load(0, 1, 0), 1);
        due(20, "no days", x.load(0, 1, 2), 0);
    }

    private static void had() {
        LoadRoad x = on(TWO);
        // person 0, weights by set: 0:0 1:2 2:0 3:2 4:3 5:5 6:3; stage 1 is 3 by 2 a day
        due(21, "in 2", x.had(0, 1, 2, 2, 0), 2);
        due(21, "in 2 least", x.had(0, 1, 2, 2, 1), 0);
        due(21, "in 2 in all", x.had(0, 1, 2, 2, 2), 0);
        due(21, "in 3", x.had(0, 1, 2, 3, 0), 4);
        due(21, "in 3 least", x.had(0, 1, 2, 3, 1), 1);
        due(21, "in 4", x.had(0, 1, 2, 4, 0), 1);
        due(21, "in 4 least", x.had(0, 1, 2, 4, 1), 5);
        due(21, "in 4 in all", x.had(0, 1, 2, 4, 2), 5);
        due(21, "in 5", x.had(0, 1, 2, 5, 0), 0);
        due(21, "in 5 least", x.had(0, 1, 2, 5, 1), -2);
        due(21, "in 5 in all", x.had(0, 1, 2, 5, 2), 0);
        due(21, "all the way", x.had(0, 0, 2, 7, 0), 2);
        due(21, "in all", x.had(0, 0, 2, 7, 2), 1);
        due(21, "back", x.had(0, 2, 1, 1, 0), -3);
        due(21, "nowhere", x.had(0, 1, 1, 1, 0), -3);
        due(21, "from -1", x.had(0, -1, 1, 1, 0), -3);
        due(21, "to 3", x.had(0, 1, 3, 1, 0), -3);
        due(21, "n 0", x.had(0, 0, 1, 0, 0), -3);
        due(21, "n 101", x.had(0, 0, 1, 101, 0), -3);
        due(21, "n 100", x.had(0, 0, 1, 100, 0), 0);
        due(21, "n 1", x.had(1, 1, 2, 1, 0), 2);
        due(21, "what 3", x.had(0, 0, 1, 1, 3), -3);
        due(21, "what -1", x.had(0, 0, 1, 1, -1), -3);
        due(21, "person 2", x.had(2, 0, 1, 1, 0), -3);
        x.rob(2);
        x.day();
        due(21, "between two, with what is gone", x.had(0, 1, 2, 4, 0), 1);
    }

    private static void exchange() {
        LoadRoad x = on("road 1;stage 10;person 1;person 10;thing 5 1;thing 0 1;has 0 0;has 1 1");
        due(22, "days", x.exchange(0, 1, 0), 12);
        due(22, "of the first one", x.exchange(0, 1, 1), 0);
        due(22, "of the second one", x.exchange(0, 1, 2), 1);
        due(22, "the other way", x.exchange(1, 0, 1), 1);
        due(22, "the other way, second", x.exchange(1, 0, 2), 0);
        due(22, "what 3", x.exchange(0, 1, 3), -2);
        due(22, "what -1", x.exchange(0, 1, -1), -2);
        due(22, "oneself", x.exchange(0, 0, 0), -2);
        due(22, "nobody", x.exchange(0, 2, 0), -2);
        due(22, "-1", x.exchange(-1, 0, 0), -2);
        due(22, "nothing changes", x.thing(0, 2), 0);
        x.day();
        due(22, "between two", x.exchange(0, 1, 0), -2);
        x = on(TWO);
        due(22, "of several nothing", x.exchange(0, 1, 0), 12);
        due(22, "nothing", x.exchange(0, 1, 1), -1);
        due(22, "nothing, second", x.exchange(0, 1, 2), -1);
        // both things of the first one are as heavy, both of the second one as light
        x = on("road 2;stage 10;person 1;person 10;thing 0 1;thing 5 1;thing 5 1;thing 0 1;"
                + "has 1 0;has 0 1;has 0 2;has 1 3");
        due(22, "the least of the first one", x.exchange(0, 1, 1), 1);
        due(22, "the least of the second one", x.exchange(0, 1, 2), 0);
        due(22, "only one pair", x.exchange(0, 1, 0), 17);
        x = on("road 1;stage 10;person 1;person 10;thing 5 1;has 0 0");
        due(22, "one alone has some", x.exchange(0, 1, 1), -1);
        due(22, "as it is", x.exchange(0, 1, 0), 16);
        x = on("road 1;person 1;person 10;thing 5 1;thing 1 1;has 0 0;has 1 1");
        due(22, "in the town", x.exchange(0, 1, 0), 0);
        x = on("road 0;stage 1;stage 1;person 1;person 2;person 2");
        x.rob(0);
        x.day();
        due(22, "all at place 1", x.exchange(1, 2, 0), 2);
    }

    private static void robbed() {
        LoadRoad x = on("road 2;stage 4;stage 9;person 3;person 5;thing 2 10;thing 5 4;thing 0 7;has 0 0;has 0 1");
        due(23, "in 6", x.robbed(6, 0), 1);
        due(23, "in 6 worth", x.robbed(6, 1), 10);
        due(23, "in 10 none", x.robbed(10, 0), -1);
        due(23, "in 10 worth", x.robbed(10, 1), 14);
        due(23, "in 1", x.robbed(1, 1), 0);
        due(23, "n 0", x.robbed(0, 0), -2);
        due(23, "n 61", x.robbed(61, 0), -2);
        due(23, "n 60", x.robbed(60, 1), 14);
        due(23, "what 2", x.robbed(6, 2), -2);
        due(23, "what -1", x.robbed(6, -1), -2);
        due(23, "nothing changes", x.count(9), 0);
        due(23, "no act", x.count(11), 0);
        // either of two that are alike: the least
        x = on("road 2;stage 1;person 4;thing 3 1;thing 3 1;has 0 0;has 0 1");
        due(23, "the least", x.robbed(1, 0), 0);
        due(23, "worth of the other", x.robbed(1, 1), 1);
        due(23, "no ROAD", new LoadRoad().robbed(1, 0), -2);
    }

    private static void game() {
        LoadRoad x = on("road 2;stage 4;stage 9;person 3;person 5;thing 2 10;thing 5 4;thing 0 7;has 0 0;has 0 1");
        due(24, "full hands", x.game(0, 1, 1), -1);
        due(24, "how much", x.game(0, 1, 0), 0);
        due(24, "the other first", x.game(1, 0, 1), 2);
        due(24, "oneself", x.game(0, 0, 0), -10000);
        due(24, "nobody", x.game(0, 2, 0), -10000);
        due(24, "-1", x.game(-1, 0, 0), -10000);
        due(24, "what 2", x.game(0, 1, 2), -10000);
        due(24, "what -1", x.game(0, 1, -1), -10000);
        due(24, "nothing changes", x.thing(2, 2), 10);
        x.day();
        due(24, "between two", x.game(0, 1, 0), -10000);
        // in the town days are none: 8 and 5 lie there, and 3; by turns 8, 5, 3
        x = on("road 2;person 1;person 1;thing 9 5;thing 9 8;thing 9 3");
        due(24, "by turns", x.game(0, 1, 0), 6);
        due(24, "the best first", x.game(0, 1, 1), 1);
        // all six lie there: 32 - 16 + 8 - 4 + 2 - 1
        x = on("road 4;stage 1;person 20;person 20;thing 0 4;thing 0 32;thing 0 1;thing 0 8;thing 0 2;thing 0 16");
        due(24, "six things", x.game(0, 1, 0), 21);
        due(24, "six things, the first", x.game(0, 1, 1), 1);
        // of several the least
        x = on("road 2;person 1;person 1;thing 9 2;thing 9 5;thing 9 5;thing 9 5");
        due(24, "5 - 5 + 5 - 2", x.game(0, 1, 0), 3);
        due(24, "the least", x.game(0, 1, 1), 1);
        // to pass is as good, as the other one can but take one, too
        x = on("road 2;person 1;person 1;thing 9 5;thing 9 5");
        due(24, "even", x.game(0, 1, 0), 0);
        due(24, "of several to pass", x.game(0, 1, 1), -1);
        // of several to pass: worth nothing
        x = on("road 2;person 1;person 1;thing 9 0");
        due(24, "to pass", x.game(0, 1, 1), -1);
        // a thing that takes more days than it is worth stays
        x = on("road 2;stage 10;person 1;person 1;thing 9 5");
        due(24, "too heavy", x.game(0, 1, 1), -1);
        due(24, "even so", x.game(0, 1, 0), 0);
        // to pass: the second one is worth 4 with it, the first one -10; with it -14 against -1
        x = on("road 2;stage 10;person 1;person 20;thing 9 5");
        due(24, "lest the second one takes it", x.game(0, 1, 0), -13);
        due(24, "so the first one does", x.game(0, 1, 1), 0);
        due(24, "without hands", on("road 0;stage 10;person 2;person 1;thing 0 5").game(0, 1, 0), 5);
        // one hand each
        x = on("road 1;person 1;person 1;thing 0 1;thing 0 8;thing 0 5");
        due(24, "8 and 5", x.game(0, 1, 0), 3);
        due(24, "takes 1", x.game(0, 1, 1), 1);
    }

    private static void pence() {
        LoadRoad x = on("road 2;person 1;person 1;person 1;person 1;thing 0 1;thing 0 1;thing 0 1;has 0 0;has 1 1;has 3 2");
        int[] ten = {4, 3, 0, 3};
        int[] eleven = {4, 4, 0, 3};
        for (int i = 0; i < 4; i++) {
            due(25, "10 of " + i, x.pence(10, i), ten[i]);
            due(25, "11 of " + i, x.pence(11, i), eleven[i]);
            due(25, "0 of " + i, x.pence(0, i), 0);
        }
        due(25, "9999", x.pence(9999, 3), 3333);
        due(25, "10000", x.pence(10000, 0), -1);
        due(25, "-1", x.pence(-1, 0), -1);
        due(25, "person 4", x.pence(1, 4), -1);
        due(25, "person -1", x.pence(1, -1), -1);
        // 7 by 1 and 5 and 4 of 10: 0.7, 3.5, 2.8: those that lost .8 and .7
        x = on("road 1;person 1;person 1;person 1;thing 0 1;thing 0 5;thing 0 4;has 0 0;has 1 1;has 2 2");
        due(25, ".7", x.pence(7, 0), 1);
        due(25, ".5", x.pence(7, 1), 3);
        due(25, ".8", x.pence(7, 2), 3);
        x = on("road 1;person 1;thing 0 0;thing 0 5;has 0 0");
        due(25, "nobody has any worth", x.pence(7, 0), 0);
    }

    private static void note() {
        LoadRoad x = on(TWO);
        due(26, "n 61", x.note(61, 0, 0), -2);
        due(26, "n -2", x.note(-2, 0, 0), -2);
        due(26, "person 2", x.note(0, 2, 0), -2);
        due(26, "person -1", x.note(0, -1, 0), -2);
        due(26, "place 3", x.note(0, 0, 3), -2);
        due(26, "place -1", x.note(0, 0, -1), -2);
        due(26, "none so far", x.count(10), 0);
        for (int i = 1; i <= 10; i++) {
            due(26, "note " + i, x.note(60, 1, 2), i);
        }
        due(26, "an 11th", x.note(0, 0, 0), -2);
        due(26, "10", x.count(10), 10);
        due(26, "no act", x.count(11), 0);
        due(26, "none then, whatever else", x.note(-1, 9, 9), 0);
        due(26, "none", x.count(10), 0);
        due(26, "first again", x.note(0, 0, 0), 1);
    }

    /** One stage of 4 by 2 a day: with the thing, of weight 3, it is 4 days, without it 2. */
    private static LoadRoad threeWays() {
        LoadRoad x = on("road 1;stage 4;stage 4;person 2;person 8;thing 3 1;has 0 0");
        rule(x, "carry 0");
        rule(x, "carry 1");
        rule(x, "carry 1 if place=0");
        return x;
    }

    private static void ruled() {
        LoadRoad x = threeWays();
        due(27, "all four", x.ruled(0), 4);
        due(27, "none is the first", x.ruled(1), -1);
        x.note(2, 0, 1);
        due(27, "without the thing", x.ruled(0), 1);
        due(27, "rule 0", x.ruled(1), 0);
        x.note(-1, 0, 0);
        x.note(3, 0, 0);
        due(27, "with it", x.ruled(0), 3);
        due(27, "none", x.ruled(1), -1);
        x.note(6, 0, 2);
        due(27, "left behind the first stage", x.ruled(0), 1);
        due(27, "rule 2", x.ruled(1), 2);
        x.note(60, 0, 1);
        due(27, "nothing is so", x.ruled(0), 0);
        due(27, "none such", x.ruled(1), -2);
        due(27, "what 2", x.ruled(2), -3);
        due(27, "what -1", x.ruled(-1), -3);
        // from the begin on, whatever has been done since
        x = threeWays();
        x.drop(0, 0);
        x.force(0);
        days(x, 3);
        x.note(4, 0, 1);
        x.note(3, 0, 0);
        due(27, "as the text told it", x.ruled(0), 3);
        due(27, "nothing changes", x.count(6), 3);
        x = threeWays();
        x.note(0, 0, 1);
        due(27, "day 0", x.ruled(0), 0);
    }

    private static void look() {
        LoadRoad x = threeWays();
        // on day 2: none 0, rule 0 at 1, rules 1 and 2 at 0: of person 0 three are alike
        due(28, "who", x.look(2, 0), 0);
        due(28, "most alike", x.look(2, 1), 3);
        // on day 6: none at 1, rule 0 at 2, rule 1 at 1, rule 2 at 2
        due(28, "two and two", x.look(6, 1), 2);
        due(28, "day 0", x.look(0, 0), 0);
        due(28, "all alike", x.look(0, 1), 4);
        due(28, "n 61", x.look(61, 0), -1);
        due(28, "n 60", x.look(60, 1), 4);
        due(28, "n -1", x.look(-1, 0), -1);
        due(28, "what 2", x.look(0, 2), -1);
        due(28, "what -1", x.look(0, -1), -1);
        x.note(3, 0, 0);
        due(28, "of three", x.look(6, 1), 2);
        x.note(0, 0, 2);
        due(28, "none is so", x.look(6, 1), -2);
        due(28, "none is so, who", x.look(6, 0), -2);
        // the second one is whom to look at
        x = on("road 1;stage 4;person 20;person 2;thing 3 1;has 1 0");
        rule(x, "carry 0");
        due(28, "the second one", x.look(2, 0), 1);
        due(28, "one each", x.look(2, 1), 1);
        x = on("road 1;stage 4");
        due(28, "no people", x.look(2, 0), -2);
        // none and six rules
        x = threeWays();
        rule(x, "carry 1");
        rule(x, "carry 1");
        rule(x, "carry 0");
        due(28, "seven alike", x.look(0, 1), 7);
        due(28, "five of seven", x.look(2, 1), 5);
        due(27, "seven", x.ruled(0), 7);
    }

    private static void seed() {
        LoadRoad x = new LoadRoad();
        due(29, "at first", x.seed(2147483647), 0);
        due(29, "below 0", x.seed(-1), -1);
        due(29, "nothing happened", x.count(12), 2147483647);
        due(29, "what it was", x.seed(0), 2147483647);
    }

    private static void thieves() {
        // DRAWS from 0: 0, 21468, 9988, 22117, 3498, 16927, 16045, 19741, 12122, 8410
        LoadRoad x = on("road 4;person 1;person 1;thing 0 1;thing 0 10;thing 0 30;has 0 0");
        due(30, "thing 21468 mod 3 = 0", x.thieves(1, 1, 100, 0), 40);
        due(30, "and 22117 mod 3 = 1", x.thieves(1, 2, 100, 0), 30);
        due(30, "twice from now on, x going on", x.thieves(2, 1, 100, 0), 40 + 31);
        due(30, "people", x.thieves(2, 1, 100, 1), 4);
        due(30, "p 0", x.thieves(3, 60, 0, 0), 123);
        due(30, "0 is below 1", x.thieves(1, 1, 1, 0), 40);
        // by p 88: 0 robs 0; 9988 mod 100 is 88, so not; 22117: 17 robs 3498 mod 3 = 0 again
        due(30, "88 is not below 88", x.thieves(1, 3, 88, 0), 40);
        due(30, "88 is below 89: 0, 1, then 98 is not", x.thieves(1, 3, 89, 0), 30);
        due(30, "x as it was", x.count(12), 0);
        due(30, "nothing changes", x.count(9), 0);
        due(30, "m 0", x.thieves(0, 1, 0, 0), -1);
        due(30, "m 11", x.thieves(11, 1, 0, 0), -1);
        due(30, "m 10", x.thieves(10, 60, 0, 1), 20);
        due(30, "n 0", x.thieves(1, 0, 0, 0), -1);
        due(30, "n 61", x.thieves(1, 61, 0, 0), -1);
        due(30, "p -1", x.thieves(1, 1, -1, 0), -1);
        due(30, "p 101", x.thieves(1, 1, 101, 0), -1);
        due(30, "what 2", x.thieves(1, 1, 0, 2), -1);
        due(30, "what -1", x.thieves(1, 1, 0, -1), -1);
        x.rob(0);
        due(30, "mod all things, the gone ones, too", x.thieves(1, 1, 100, 0), 40);
        // robbed ahead of the day: without the weight one is there on it
        x = on("road 1;stage 1;person 1;thing 9 1;has 0 0");
        due(30, "ahead of the day", x.thieves(1, 1, 100, 1), 1);
        due(30, "without thieves", x.thieves(1, 1, 0, 1), 0);
        x = on("road 1;stage 1;person 1");
        due(30, "no things", x.thieves(1, 1, 100, 1), 1);
    }

    private static void count() {
        LoadRoad x = on("road 3;stage 1;stage 2;person 1;person 9;thing 0 5;thing 0 6;thing 0 7;has 1 0", "carry has");
        x.seed(9);
        days(x, 2);
        x.rob(2);
        x.note(1, 1, 1);
        x.feed(0, 0, 0, 0, 0);
        int[] want = {3, 2, 2, 3, 1, 0, 2, 2, 5, 4, 1, 3, 9, 20};
        for (int i = 0; i < want.length; i++) {
            due(31, "count " + i, x.count(i), want[i]);
        }
        due(31, "count 14", x.count(14), -1);
        due(31, "count -1", x.count(-1), -1);
    }

    private static void image() {
        LoadRoad x = on(TWO);
        due(32, "0", x.image(0), 0);
        days(x, 3);
        due(32, "3", x.image(3), 3);
        due(32, "4", x.image(4), -1);
        due(32, "-1", x.image(-1), -1);
        days(x, 1);
        due(32, "over", x.image(0), 4);
        due(32, "the later one", x.back(0), 4);
        due(32, "no road", new LoadRoad().image(1), 0);
    }

    private static void back() {
        LoadRoad x = new LoadRoad();
        due(33, "never made", x.back(0), -1);
        due(33, "4", x.back(4), -1);
        due(33, "-1", x.back(-1), -1);
        x.image(2);
        road(x, TWO);
        rule(x, "carry 1");
        x.force(0);
        days(x, 3);
        x.rob(2);
        x.seed(8);
        x.note(2, 1, 1);
        x.image(1);
        x.undo();
        x.undo();
        x.note(-1, 0, 0);
        x.seed(1);
        x.force(-1);
        rule(x, "carry 0");
        road(x, "road 1;person 4");
        x.feed(0, 0, 0, 0, 0);
        due(33, "back", x.back(1), 3);
        int[] want = {2, 2, 2, 3, 2, 0, 3, 0, 0, 4, 1, 4, 8, 20};
        for (int i = 0; i < want.length; i++) {
            due(33, "count " + i, x.count(i), want[i]);
        }
        due(33, "undo", x.undo(), 3);
        due(33, "there again", x.thing(2, 2), 1);
        due(33, "a second time", x.back(1), 3);
        due(33, "the image stayed as it was", x.thing(2, 2), -1);
        due(33, "acts again", x.count(11), 4);
        x.undo();
        x.undo();
        x.undo();
        x.undo();
        due(33, "all undone", x.count(6), 0);
        due(33, "lies again", x.thing(1, 2), 10);
        due(33, "not made", x.back(0), -1);
        due(33, "without a road", x.back(2), 0);
        due(33, "no road then", x.day(), -1);
        due(33, "rules stay", x.count(4), 2);
        due(33, "none in force", x.count(5), -1);
        due(33, "tape stays", x.count(13), 20);
        due(33, "image 1 still", x.back(1), 3);
    }

    /** No call throws, whatever comes. */
    private static void wildArguments() {
        int[] wild = {Integer.MIN_VALUE, -10000, -3, -1, 0, 1, 2, 7, 64, 101, Integer.MAX_VALUE};
        LoadRoad[] all = {new LoadRoad(), on(TWO), on("road 4"), on(TWO, "carry 1")};
        days(all[3], 9);
        for (LoadRoad x : all) {
            for (int a : wild) {
                for (int b : wild) {
                    for (int c : wild) {
                        x.give(a, b, c);
                        x.ahead(a, b, c);
                        x.load(a, b, c);
                        x.exchange(a, b, c);
                        x.game(a, b, c);
                        x.note(a, b, c);
                        x.had(a, b, c, a, b);
                        x.had(0, a, b, 5, c);
                        x.thieves(a, b, c, 0);
                        x.thieves(1, a, b, c);
                    }
                    x.person(a, b);
                    x.thing(a, b);
                    x.drop(a, b);
                    x.take(a, b);
                    x.far(a, b);
                    x.robbed(a, b);
                    x.pence(a, b);
                    x.look(a, b);
                    x.feed(a, b, a, b, a);
                }
                x.end(a);
                x.force(a);
                x.stage(a);
                x.rob(a);
                x.comes(a);
                x.wealth(a);
                x.ruled(a);
                x.seed(a);
                x.count(a);
                x.image(a);
                x.back(a);
                x.road();
                x.rule();
            }
        }
    }
}
