/** Each promise of the document by hand: ordinary inputs, the edges that it names, wrong inputs. */
public final class PromiseTest extends Hand {
    public static void main(String[] args) {
        newObject();
        lake();
        lakeFirstFault();
        lakeMakesAnew();
        lakeFaults();
        ofBoat();
        wind();
        isle();
        planAnswers();
        planDrifts();
        planFines();
        planRefusals();
        soonest();
        soonestWithoutFine();
        hats();
        rid();
        readingAndBack();
        winds();
        kinds();
        speeds();
        byPlanRefusals();
        odds();
        sheetAndLose();
        putAndCell();
        copy();
        tellAndHail();
        as();
        faultIsKept();
        many();
        end("all promises hold");
    }

    private static void newObject() {
        promise = "1 a new object";
        LakeWind x = new LakeWind();
        for (int what = 0; what < 4; what++) {
            due("many", x.many(what), 0);
        }
        for (int k = 0; k < 4; k++) {
            due("lose", x.lose(k), 0);
            due("put", x.put(k, 0, 1), -11);
        }
        due("ofBoat", x.ofBoat(0, 0), LakeWind.UNKNOWN);
        due("soonest", x.soonest(0), LakeWind.STATE);
        due("trace", x.trace(), 0);
        due("fault of a fresh one", new LakeWind().fault(), 0);
        due("LOST", LakeWind.LOST, Long.MIN_VALUE);
    }

    private static void lake() {
        promise = "2 lake";
        LakeWind x = new LakeWind();
        due("one boat", lakeBy(x, "w20;.,b01"), 1);
        due("two boats", lakeBy(x, "w301;><,b01,t13"), 2);
        due("three boats, ten winds", lakeBy(x, "w4111;><.><.><.>,b01,o12,t03"), 3);
        for (int lane = 0; lane < 3; lane++) {
            write(x, 2, lane, "xxw20;.,b01yy");
            due("from 2 on, lane " + lane, x.lake(2, lane, 2, 9), 1);
            due("to the end, lane " + lane, x.lake(2, lane, 2, 10), -109);
        }
        write(x, 2, 2, "w20;.,b01");
        x.put(2, 0, 119 + 256);
        due("a code beyond a byte", x.lake(2, 2, 0, 9), -100);
        write(x, 2, 0, "w20;.,b01");
        x.put(2, 0, 119 + 256);
        due("a code that is cut", x.lake(2, 0, 0, 9), 1);
    }

    private static void fault(String text, int place) {
        LakeWind x = at(THREE);
        due("lake by " + text, lakeBy(x, text), -100 - place);
        due("boats behind " + text, x.many(0), 3);
        due("WIDE behind " + text, x.many(1), 4);
    }

    private static void lakeFirstFault() {
        promise = "2 lake, first fault";
        String whole = "w301;><,b01,t13";
        for (int n = 0; n < whole.length(); n++) {
            if (n != 11) {
                fault(whole.substring(0, n), n);
            }
        }
        fault("W", 0);
        fault(">,b01", 0);
        fault("20;>,b01", 0);
        fault("w>,b01", 1);
        fault("w;>,b01", 1);
        fault("w2>,b01", 2);
        fault("w30>,b01", 3);
        fault("w20>,b01", 3);
        fault("w20;>b01", 5);
        fault("w20;>,01", 6);
        fault("w20;>,b1", 8);
        fault("w20;>,b,b01", 7);
        fault("w20;>,b0,b01", 8);
        fault("w1", 1);
        fault("w5", 1);
        fault("w2;", 2);
        fault("w22", 2);
        fault("w200", 3);
        fault("w30;", 3);
        fault("w400;", 4);
        fault("w4000.", 5);
        fault("w20;,b01", 4);
        fault("w20;>>>>>>>>>>>,b01", 14);
        fault("w20;>x", 5);
        fault("w20;>,,", 6);
        fault("w20;>,x", 6);
        fault("w20;>,b2", 7);
        fault("w20;>,b00", 8);
        fault("w20;>,b04", 8);
        fault("w20;>,b01;", 9);
        fault("w20;>,b01,b01,b01,b01", 17);
        fault("w20;>,b01,b01,b01x", 17);
    }

    private static void lakeMakesAnew() {
        promise = "2 lake, all anew";
        LakeWind x = at("w4111;>>>,b01,b11");
        x.reading(0, 0, 1);
        x.wind(0, 2);
        x.isle(1, false);
        due("a text with a fault", lakeBy(x, "w"), -101);
        due("readings are kept", x.many(3), 1);
        due("winds are kept", x.wind(0, 2), 2);
        due("isles are kept", x.isle(1, false), 0);
        due("a text that is taken", lakeBy(x, "w300;<,o11"), 1);
        due("no readings", x.many(3), 0);
        due("winds anew", x.wind(0, 2), 2);
        due("isles anew", x.isle(1, false), 0);
        due("hours anew", x.many(2), 1);
        due("second boat is gone", x.ofBoat(1, 0), LakeWind.UNKNOWN);
        due("soonest anew", x.soonest(1), LakeWind.NONE);
    }

    private static void lakeFaults() {
        promise = "2 lake, faults";
        LakeWind x = new LakeWind();
        write(x, 0, 0, "w20;.,b01");
        due("no sheet ahead of lane", x.lake(-1, 3, 0, 9), LakeWind.UNKNOWN);
        due("no sheet", x.lake(4, 0, 0, 9), LakeWind.UNKNOWN);
        due("no lane", x.lake(0, -1, 0, 9), LakeWind.OUTSIDE);
        due("cast ahead of size", x.lake(0, 1, 0, -1), -12);
        due("fault", x.fault(), 2);
        due("null ahead of size", x.lake(3, 1, 0, -1), -11);
        due("fault", x.fault(), 1);
        due("size ahead of index", x.lake(0, 0, -1, LEAST), -14);
        due("fault", x.fault(), 4);
        due("index", x.lake(0, 0, 1, 9), -13);
        due("fault", x.fault(), 3);
        due("index below", x.lake(0, 0, -1, 1), -13);
        due("none of them, at the end", x.lake(0, 0, 9, 0), -100);
        due("fault", x.fault(), 0);
        due("none of them, beyond", x.lake(0, 0, 10, 0), -13);
        due("none of them, below", x.lake(0, 0, -1, 0), -13);
        due("sum that wraps", x.lake(0, 0, 5, MOST), -13);
        due("sum that wraps", x.lake(0, 0, MOST, MOST), -13);
        due("no lake yet", x.many(0), 0);
    }

    private static void ofBoat() {
        promise = "3 ofBoat";
        LakeWind x = at("w4010;>,b11,o03,t12");
        int[][] boats = {{0, 1, 1, 1}, {1, 0, 3, 4}, {2, 1, 2, 2}};
        for (int b = 0; b < 3; b++) {
            for (int what = 0; what < 4; what++) {
                due("ofBoat(" + b + ", " + what + ")", x.ofBoat(b, what), boats[b][what]);
            }
            due("what", x.ofBoat(b, -1), LakeWind.OUTSIDE);
            due("what", x.ofBoat(b, 4), LakeWind.OUTSIDE);
        }
        due("boat", x.ofBoat(-1, 4), LakeWind.UNKNOWN);
        due("boat", x.ofBoat(3, 0), LakeWind.UNKNOWN);
    }

    private static void wind() {
        promise = "4 wind";
        due("no lake", new LakeWind().wind(-1, 9), LakeWind.STATE);
        LakeWind x = at("w20;><.,b01");
        due("was >", x.wind(0, 0), 1);
        due("was <", x.wind(1, 1), 2);
        due("was .", x.wind(2, 2), 0);
        due("is .", x.wind(0, 0), 0);
        due("is >", x.wind(1, 1), 1);
        due("is <", x.wind(2, 2), 2);
        due("hour", x.wind(3, 0), LakeWind.OUTSIDE);
        due("hour", x.wind(-1, 0), LakeWind.OUTSIDE);
        due("v", x.wind(0, 3), LakeWind.OUTSIDE);
        due("v", x.wind(0, -1), LakeWind.OUTSIDE);
        due("is ., still", x.wind(0, 0), 0);
    }

    private static void isle() {
        promise = "5 isle";
        due("no lake", new LakeWind().isle(0, true), LakeWind.STATE);
        LakeWind x = at("w4010;>>,b01");
        due("is one", x.isle(2, true), 0);
        due("is none", x.isle(1, false), 0);
        due("becomes one", x.isle(1, true), 1);
        due("becomes one again", x.isle(1, true), 0);
        due("the boat waits there", planned(x, 10, 1, 0), 1);
        due("becomes none", x.isle(1, false), 1);
        due("the boat drifts", planned(x, 10, 1, 0), 2);
        for (int c : new int[] {LEAST, -1, 0, 4, 5, 33, MOST}) {
            due("isle(" + c + ")", x.isle(c, true), LakeWind.OUTSIDE);
        }
    }

    private static void planAnswers() {
        promise = "6 plan";
        LakeWind x = at(THREE);
        due("nobody is over", planned(x, 0), 0);
        due("over", planned(x, 0, 7, 7), 6);
        due("boat 0", planned(x, 10, 7, 7), 2);
        due("an oared one against: 3 at first", planned(x, 11, 2), 1);
        due("an oared one at the shore at most", planned(x, 11, 2, 2), 0);
        due("a towed one against as a boat", at("w4000;<,t02").plan(0, 0, 0, 0, 10), 0);
        due("towed", planned(at("w4000;<,t02"), 10, 1), 2);
        due("oared", planned(at("w4000;<,o02"), 10, 1), 3);
        due("oared with the wind", planned(at("w4000;>,o02"), 10, 1), 2);
        due("boat against", planned(at("w4000;<,b02"), 10, 1), 2);
        due("from the other shore", planned(at("w4000;<,b12"), 10, 1), 2);
        due("a calm", planned(at("w4000;.,b12"), 10, 1), 4);
        due("all over", planned(x, 3, 7, 7, 7, 7, 7, 7), 4);
        due("not all over", planned(x, 3, 7, 7, 7, 7), LakeWind.NONE);
        due("no fine", planned(x, 2, 7, 7), LakeWind.NONE);
        due("no such boat", planned(at(ONE), 11, 1), LakeWind.NONE);
        due("no such boat", planned(at(ONE), 12, 1), LakeWind.NONE);
        due("over stays over", planned(at("w20;>><,b02"), 10, 1, 1, 1), 2);
        x.sheet(2, 0, 6);
        x.put(2, 4, 2);
        due("from 4 on", x.plan(2, 0, 4, 1, 11), 1);
        due("from 4 on, then it drifts to the isle", x.plan(2, 0, 4, 2, 11), 2);
    }

    private static void planDrifts() {
        promise = "6 plan, drifting";
        due("with the wind", planned(at("w4000;>>,b01"), 10, 1, 0), 2);
        due("back with the wind", planned(at("w4000;><,b01"), 10, 1, 0), 0);
        due("in a calm", planned(at("w4000;>.,b01"), 10, 1, 0), 1);
        due("on an isle", planned(at("w4100;>>,b01"), 10, 1, 0), 1);
        due("at the shore", planned(at("w4000;>>,b01"), 10, 0, 0), 0);
        due("one cell though it is fast", planned(at("w4000;<>,o01"), 10, 1, 0), 3);
        due("over by drifting", planned(at("w20;>>,b01"), 0, 1, 0), 1);
        due("drifted over, then stays", planned(at("w20;>><,b01"), 10, 1, 0, 1), 2);
        due("back at its shore it is not over", planned(at("w20;><,b01"), 0, 1, 0), 0);
        due("and goes again", planned(at("w20;><>,b02"), 0, 0, 0, 1), 1);
        due("drifts down, over", planned(at("w20;<<,b11"), 0, 1, 0), 1);
        due("drifts up, back", planned(at("w20;<>,b11"), 10, 1, 0), 2);
        due("nobody is fined by drifting", planned(at("w4000;>>,b01,b01"), 1, 1, 2), 0);
    }

    private static void planFines() {
        promise = "6 plan, fines";
        LakeWind x = at("w4000;>><.>,b01,o01,b01");
        due("two", planned(x, 1, 3), 2);
        due("three", planned(x, 1, 7), 3);
        due("each hour", planned(x, 1, 7, 3), 5);
        due("against the wind nobody", planned(x, 1, 0, 0, 7), 0);
        due("in a calm nobody", planned(x, 1, 0, 0, 0, 7), 0);
        due("one alone", planned(x, 1, 4, 2, 7, 7), 0);
        due("first hour", planned(x, 2, 1, 6), 1);
        due("first of two hours", planned(x, 2, 7, 7), 0);
        due("a towed one is none", planned(at("w4000;>,b01,t01"), 1, 3), 0);
        due("two towed ones", planned(at("w4000;>,t01,t01,b01"), 1, 7), 0);
        due("a towed one is not fined with two", planned(at("w4000;>,b01,t01,o01"), 1, 7), 2);
        due("the other way is against", planned(at("w4000;>,b01,b11"), 1, 3), 0);
        due("down", planned(at("w4000;<,b11,b11"), 1, 3), 2);
        due("one that is over does not go", planned(at("w20;>>,b02,b01"), 1, 1, 3), 0);
        due("the fined go all the same", planned(at("w20;>,b02,b02"), 0, 3), 3);
    }

    private static void planRefusals() {
        promise = "6 plan, refusals";
        LakeWind none = new LakeWind();
        none.sheet(0, 0, 1);
        none.put(0, 0, 99);
        due("no lake", none.plan(0, 0, 0, 1, 0), LakeWind.STATE);
        due("index ahead of no lake", none.plan(0, 0, 0, 2, 0), -13);
        due("fault", none.fault(), 3);
        LakeWind x = at(THREE);
        order(x, 1, 1, 1, 1, 1, 1, 1, 8, -1);
        due("sheet first", x.plan(4, 3, 0, 11, 4), LakeWind.UNKNOWN);
        due("sheet", x.plan(-1, 0, 0, 0, 0), LakeWind.UNKNOWN);
        due("lane", x.plan(1, 3, 0, 1, 0), LakeWind.OUTSIDE);
        due("lane", x.plan(1, -1, 0, 1, 0), LakeWind.OUTSIDE);
        due("n ahead of cast", x.plan(1, 0, 0, 11, 0), LakeWind.OUTSIDE);
        due("n below", x.plan(1, 2, 0, -1, 0), LakeWind.OUTSIDE);
        for (int what : new int[] {LEAST, -1, 4, 9, 13, MOST}) {
            due("what ahead of cast " + what, x.plan(1, 0, 0, 1, what), LakeWind.OUTSIDE);
        }
        due("fault of a refusal", x.fault(), 0);
        due("cast ahead of index", x.plan(1, 1, -1, 1, 0), -12);
        due("null", x.plan(2, 1, -1, 1, 0), -11);
        due("index ahead of n above hours", x.plan(1, 2, 0, 10, 0), -13);
        due("none of them, at the end", x.plan(1, 2, 9, 0, 0), 0);
        due("none of them, beyond", x.plan(1, 2, 10, 0, 0), -13);
        due("none of them, below", x.plan(1, 2, -1, 0, 0), -13);
        due("far beyond", x.plan(1, 2, MOST, 10, 0), -13);
        due("n above hours", x.plan(1, 2, 0, 7, 0), LakeWind.OUTSIDE);
        due("all hours", x.plan(1, 2, 0, 6, 0), 1);
        due("no set of boats", x.plan(1, 2, 7, 1, 0), LakeWind.OUTSIDE);
        due("below a set", x.plan(1, 2, 8, 1, 0), LakeWind.OUTSIDE);
        due("a boat that there is not", planned(at(ONE), 0, 2), LakeWind.OUTSIDE);
    }

    private static void soonest() {
        promise = "7 soonest";
        due("no lake", new LakeWind().soonest(-1), LakeWind.STATE);
        LakeWind x = at(THREE);
        int[] hours = {0, 5, 2, 5, 2, 5, 2, 5};
        for (int set = 0; set < 8; set++) {
            due("soonest(" + set + ")", x.soonest(set), hours[set]);
        }
        due("set", x.soonest(8), LakeWind.OUTSIDE);
        due("set", x.soonest(-1), LakeWind.OUTSIDE);
        due("set", x.soonest(LEAST), LakeWind.OUTSIDE);
        due("a boat that there is not", at(ONE).soonest(2), LakeWind.OUTSIDE);
        due("not in time", at(ONE).soonest(1), LakeWind.NONE);
        due("nobody is always over", at(ONE).soonest(0), 0);
        due("with the last hour", at("w20;>>,b01").soonest(1), 2);
        due("in one", at("w20;>>,b02").soonest(1), 1);
        due("only calms", at("w20;..........,b03").soonest(1), LakeWind.NONE);
        due("a wind that is changed", x.wind(3, 1), 0);
        due("counts", x.soonest(1), 4);
    }

    private static void soonestWithoutFine() {
        promise = "7 soonest, no fine";
        due("one at a time with the wind", at("w20;>>>,b02,b02,b02").soonest(7), 3);
        due("two of three", at("w20;>>>,b02,b02,b02").soonest(5), 2);
        due("all at once against it", at("w20;<<<,b02,b02,b02").soonest(7), 1);
        due("towed ones with it", at("w20;>>>,t02,b02,t02").soonest(7), 1);
        due("not even the others", at("w20;>>>,b02,b02").soonest(1), 1);
        due("too few hours", at("w20;>>,b02,b02,b02").soonest(7), LakeWind.NONE);
        due("drifting is free", at("w20;>>>,b01,b01").soonest(3), 3);
        due("an isle holds one, it goes again", at("w21;>>>>,b01,b01").soonest(3), 4);
        due("drifting back costs", at("w20;><>>,b01").soonest(1), 2);
        LakeWind x = at("w300;>>.>>,b01,b01");
        due("before an isle", x.soonest(3), 5);
        x.isle(1, true);
        x.isle(2, true);
        due("behind isles", x.soonest(3), LakeWind.NONE);
        x.isle(2, false);
        due("behind one isle", x.soonest(3), LakeWind.NONE);
        x.isle(1, false);
        due("without isles again", x.soonest(3), 5);
    }

    private static void hats() {
        promise = "8 hats";
        due("no lake", new LakeWind().hats(-1, -1), LakeWind.STATE);
        LakeWind x = at(THREE);
        due("set", x.hats(8, 0), LakeWind.OUTSIDE);
        due("set", x.hats(-1, 0), LakeWind.OUTSIDE);
        due("n", x.hats(0, 11), LakeWind.OUTSIDE);
        due("n", x.hats(0, -1), LakeWind.OUTSIDE);
        due("nobody", x.hats(0, 0), 0);
        due("in time as it is", x.hats(7, 5), 0);
        due("the calm of hour 3", x.hats(7, 4), 8);
        due("too soon", x.hats(7, 3), LakeWind.NONE);
        due("more than there are hours", x.hats(7, 10), 0);
        due("two calms", at("w20;..,b01").hats(1, 2), 3);
        due("one of two", at("w20;..,b02").hats(1, 2), 1);
        due("three calms are too many", at("w300;...,b01").hats(1, 3), LakeWind.NONE);
        due("the least of sets", at("w20;....,b01").hats(1, 4), 3);
        due("one later hour is fewer than two early ones", at("w4000;>>>.,b01").hats(1, 4), 8);
        due("and with calms for it", at("w4000;>>.>,b01").hats(1, 4), 4);
        due("of two hours the later one as low as can be", at("w4000;..>>..,b01").hats(1, 6), 3);
        due("an hour behind n is no help", at("w20;...,b02").hats(1, 0), LakeWind.NONE);
        due("to the other wind, all at once", at("w20;>>,b02,b02,b02").hats(7, 1), 1);
        due("a calm is a help against drifting back", at("w20;><>,b01").hats(1, 3), 0);
        due("nothing is changed by it", x.wind(3, 0), 0);
    }

    private static void rid() {
        promise = "9 rid";
        due("no lake", new LakeWind().rid(0), LakeWind.UNKNOWN);
        LakeWind x = at(THREE);
        due("the slow one", x.rid(0), 3);
        due("another", x.rid(1), 0);
        due("no boat", x.rid(3), LakeWind.UNKNOWN);
        due("no boat", x.rid(-1), LakeWind.UNKNOWN);
        due("alone", at("w20;>>,b01").rid(0), 2);
        due("alone, not over", at(ONE).rid(0), LakeWind.NONE);
        due("all are not over, others are", at("w20;>,b01,b02").rid(0), LakeWind.NONE);
        due("waiting for its turn", at("w20;>>>,b02,b02,b02").rid(1), 1);
    }

    private static void readingAndBack() {
        promise = "10 reading, 11 back";
        due("no lake", new LakeWind().reading(0, 0, 0), LakeWind.UNKNOWN);
        due("none to take back", new LakeWind().back(0), 0);
        due("one too many", new LakeWind().back(1), LakeWind.OUTSIDE);
        LakeWind x = at(THREE);
        due("boat first", x.reading(3, -1, 9), LakeWind.UNKNOWN);
        due("boat", x.reading(-1, 0, 0), LakeWind.UNKNOWN);
        due("hour", x.reading(0, -1, 0), LakeWind.OUTSIDE);
        due("hour", x.reading(0, 10, 0), LakeWind.OUTSIDE);
        due("cell", x.reading(0, 0, -1), LakeWind.OUTSIDE);
        due("cell", x.reading(0, 0, 5), LakeWind.OUTSIDE);
        for (int k = 0; k < 8; k++) {
            due("number", x.reading(k % 3, k == 7 ? 9 : k, 4), k);
            due("many", x.many(3), k + 1);
        }
        due("full", x.reading(0, 0, 0), LakeWind.FULL);
        due("outside ahead of full", x.reading(0, 10, 0), LakeWind.OUTSIDE);
        due("back 9", x.back(9), LakeWind.OUTSIDE);
        due("back -1", x.back(-1), LakeWind.OUTSIDE);
        due("back 0", x.back(0), 8);
        due("back 3", x.back(3), 5);
        due("the next", x.reading(0, 0, 0), 5);
        due("back all", x.back(6), 0);
        due("many", x.many(3), 0);
        LakeWind y = at("w4000;>,b01");
        y.reading(0, 0, 1);
        y.reading(0, 0, 3);
        order(y, 1);
        due("both", y.winds(0, 1, 2, 0, 1), 0);
        y.back(1);
        due("the last is taken back", y.winds(0, 1, 2, 0, 1), 6);
    }

    private static void winds() {
        promise = "12 winds";
        LakeWind x = at("w4000;>.<,b01");
        int n = order(x, 1, 0, 1);
        due("no readings", x.winds(2, 1, 2, 0, n), 7);
        x.reading(0, 1, 2);
        due("first hour: then it is in 1, a calm keeps it", x.winds(0, 1, 2, 0, n), 0);
        due("second hour: it drifts up", x.winds(1, 1, 2, 0, n), 2);
        due("third hour can't help", x.winds(2, 1, 2, 0, n), 0);
        x.wind(1, 1);
        due("third hour is free", x.winds(2, 1, 2, 0, n), 7);
        due("first hour: up or down, it goes 1", x.winds(0, 1, 2, 0, n), 6);
        due("an hour that the plan does not tell is free", x.winds(2, 1, 2, 0, 2), 7);
        due("hours that the plan does not tell are not so", x.winds(0, 1, 2, 0, 1), 0);
        due("what it was is back", x.wind(1, 1), 1);
        due("hour ahead of sheet", x.winds(3, 4, 2, 0, 0), LakeWind.OUTSIDE);
        due("hour", x.winds(-1, 1, 2, 0, 0), LakeWind.OUTSIDE);
        due("no lake: any hour is none", new LakeWind().winds(0, 4, 0, 0, 0), LakeWind.OUTSIDE);
    }

    private static void kinds() {
        promise = "13 kinds";
        LakeWind x = at("w4000;<>,b01,o01");
        int n = order(x, 3, 0);
        due("no readings", x.kinds(0, 1, 2, 0, n), 7);
        x.reading(0, 0, 2);
        due("oared alone goes 2 against the wind", x.kinds(0, 1, 2, 0, n), 2);
        due("the other one is no help", x.kinds(1, 1, 2, 0, n), 0);
        x.back(1);
        x.reading(0, 0, 1);
        due("a boat or a towed one", x.kinds(0, 1, 2, 0, n), 5);
        due("the other one is free", x.kinds(1, 1, 2, 0, n), 7);
        due("nothing is changed by it", x.ofBoat(0, 0), 0);
        due("nothing is changed by it", x.ofBoat(1, 0), 1);
        due("no hours", x.kinds(0, 1, 2, 0, 0), 0);
        due("boat ahead of sheet", x.kinds(2, 4, 3, 0, 0), LakeWind.UNKNOWN);
        due("boat", x.kinds(-1, 1, 2, 0, 0), LakeWind.UNKNOWN);
    }

    private static void speeds() {
        promise = "14 speeds";
        LakeWind x = at("w4000;><,b11,o11");
        int n = order(x, 3, 0);
        due("no readings", x.speeds(0, 1, 2, 0, n), 14);
        x.reading(0, 0, 2);
        due("2 alone", x.speeds(0, 1, 2, 0, n), 4);
        x.back(1);
        x.reading(1, 0, 0);
        due("oared: 3 and 1 more", x.speeds(1, 1, 2, 0, n), 8);
        x.back(1);
        x.reading(1, 1, 0);
        due("or drifting there", x.speeds(1, 1, 2, 0, n), 12);
        due("the other one is no help", x.speeds(0, 1, 2, 0, n), 0);
        due("nothing is changed by it", x.ofBoat(1, 2), 1);
        due("boat ahead of sheet", x.speeds(2, 4, 3, 0, 0), LakeWind.UNKNOWN);
        due("boat", x.speeds(-1, 1, 2, 0, 0), LakeWind.UNKNOWN);
    }

    private static void byPlanRefusals() {
        promise = "12 to 15, as plan";
        LakeWind x = at(THREE);
        order(x, 1, 1, 1, 1, 1, 1, 1, 8);
        int[][] cases = {
            {4, 3, 0, 11, LakeWind.UNKNOWN, 0}, {-1, 0, 0, 0, LakeWind.UNKNOWN, 0},
            {1, 3, 0, 1, LakeWind.OUTSIDE, 0}, {1, 0, 0, 11, LakeWind.OUTSIDE, 0}, {1, 0, 0, -1, LakeWind.OUTSIDE, 0},
            {1, 0, -1, 1, -12, 2}, {2, 0, -1, 1, -11, 1}, {1, 2, 0, 9, -13, 3}, {1, 2, 9, 0, -13, 3}, {1, 2, MOST, 1, -13, 3},
            {1, 2, 0, 7, LakeWind.OUTSIDE, 0}, {1, 2, 7, 1, LakeWind.OUTSIDE, 0},
        };
        for (int[] c : cases) {
            String by = c[0] + ", " + c[1] + ", " + c[2] + ", " + c[3];
            due("winds " + by, x.winds(0, c[0], c[1], c[2], c[3]), c[4]);
            due("fault " + by, x.fault(), c[5]);
            due("kinds " + by, x.kinds(0, c[0], c[1], c[2], c[3]), c[4]);
            due("fault " + by, x.fault(), c[5]);
            due("speeds " + by, x.speeds(0, c[0], c[1], c[2], c[3]), c[4]);
            due("fault " + by, x.fault(), c[5]);
            due("odds " + by, x.odds(c[0], c[1], c[2], c[3], 0), LakeWind.LOST);
            due("fault " + by, x.fault(), c[5]);
        }
        x.put(3, 0, 1);
        due("a refused hour is no fault", x.winds(6, 3, 0, 0, 1), LakeWind.OUTSIDE);
        due("fault", x.fault(), 0);
        x.put(3, 0, 1);
        due("a refused boat is no fault", x.kinds(3, 3, 0, 0, 1), LakeWind.UNKNOWN);
        due("fault", x.fault(), 0);
        x.put(3, 0, 1);
        due("a refused boat is no fault", x.speeds(3, 3, 0, 0, 1), LakeWind.UNKNOWN);
        due("fault", x.fault(), 0);
        due("which ahead of cast", x.odds(1, 0, 0, 1, 2), LakeWind.LOST);
        due("fault", x.fault(), 0);
        due("which", x.odds(1, 2, 0, 1, -1), LakeWind.LOST);
        LakeWind none = new LakeWind();
        none.sheet(0, 0, 1);
        due("no lake", none.odds(0, 0, 0, 1, 0), LakeWind.LOST);
        due("fault", none.fault(), 0);
    }

    private static void odds() {
        promise = "15 odds";
        share("w20;.,b01,b01", 1, 1);
        share("w4000;.,b01,b01", 1, 2, 3);
        share("w4000;..,b01,b01", 1, 4, 3, 3);
        share("w4000;..,b01,b01", 1, 2, 3, 1);
        share("w4000;..,b01,t01", 1, 1, 3, 3);
        share("w4000;..,b01,b11", 1, 1, 3, 3);
        share("w4000;.,b01,b01,b11", 1, 2, 7);
        share("w4000;.,b01,b11,b11", 1, 2, 6);
        // Fined when > in hour 0; behind < both are over, as they go 2, so hour 1 is free.
        share("w20;..,b02,b02", 1, 2, 3, 3);
        // Fined by > in an hour with both; boat 0 is over behind hour 0 by any wind.
        share("w20;..,b02,b01", 1, 1, 1, 3);
        share("w4000;.,b01,b01,t11", 1, 2, 7);
        // Isles hold both, so each of four hours has to be <; else they may drift over, and then are free.
        share("w4111;..........,b01,b01", 1, 16, 3, 0, 3, 0, 3, 0, 3, 0, 0, 0);
        share("w4000;..........,b01,b01", 1, 8, 3, 0, 3, 0, 3, 0, 3, 0, 0, 0);
        // Two from each shore can't be with three boats, but one hour for each shore: 1/2 and 1/2.
        share("w4000;..,b01,b01,t11", 1, 4, 3, 7);
        share("w20;...,b01,b01", 3, 8, 3, 0, 3);
        LakeWind x = at("w20;>,b01,b01");
        order(x, 3);
        due("the wind itself does not count", x.odds(1, 2, 0, 1, 0), 1);
        due("and is kept", x.wind(0, 1), 1);
    }

    private static void sheetAndLose() {
        promise = "16 sheet, 17 lose";
        LakeWind x = new LakeWind();
        for (int k = 0; k < 4; k++) {
            due("sheet", x.sheet(k, k % 3, 60), 1);
            due("put", x.put(k, 59, 5), 1);
            due("a new row", x.sheet(k, k % 3, 60), 1);
            due("is 0", x.cell(k, 59, k % 3), 0);
            due("of no cells", x.sheet(k, k % 3, 0), 1);
            due("has none", x.put(k, 0, 5), -13);
            due("lose", x.lose(k), 1);
            due("lost", x.lose(k), 0);
            due("nothing", x.put(k, 0, 5), -11);
        }
        due("no sheet first", x.sheet(4, 3, 61), LakeWind.UNKNOWN);
        due("no sheet", x.sheet(-1, 0, 1), LakeWind.UNKNOWN);
        due("lane", x.sheet(0, 3, -1), LakeWind.OUTSIDE);
        due("lane", x.sheet(0, -1, 1), LakeWind.OUTSIDE);
        due("n", x.sheet(0, 0, 61), LakeWind.OUTSIDE);
        due("n", x.sheet(0, 0, MOST), LakeWind.OUTSIDE);
        due("still nothing", x.lose(0), 0);
        x.sheet(0, 1, 2);
        x.put(0, 1, 7);
        due("size", x.sheet(0, 0, -1), -14);
        due("fault", x.fault(), 4);
        due("size", x.sheet(0, 0, LEAST), -14);
        due("what was there is kept", x.cell(0, 1, 1), 7);
        due("lose", x.lose(4), LakeWind.UNKNOWN);
        due("lose", x.lose(-1), LakeWind.UNKNOWN);
    }

    private static void putAndCell() {
        promise = "18 put, 19 cell";
        LakeWind x = new LakeWind();
        int[] puts = {0, 127, 128, 255, 256, -128, -129, 32767, 32768, 65535, -32769, MOST, LEAST};
        for (int lane = 0; lane < 3; lane++) {
            x.sheet(lane, lane, puts.length);
            for (int i = 0; i < puts.length; i++) {
                due("put", x.put(lane, i, puts[i]), 1);
                int cut = lane == 0 ? (byte) puts[i] : lane == 1 ? (short) puts[i] : puts[i];
                due("cell of " + puts[i] + ", lane " + lane, x.cell(lane, i, lane), cut);
            }
            due("put beyond", x.put(lane, puts.length, 1), -13);
            due("put below", x.put(lane, -1, 1), -13);
            due("cell beyond", x.cell(lane, puts.length, lane), LakeWind.LOST);
            due("fault", x.fault(), 3);
            due("cell as another lane, ahead of index", x.cell(lane, -1, (lane + 1) % 3), LakeWind.LOST);
            due("fault", x.fault(), 2);
        }
        due("nothing is no cast", x.cell(3, -1, 1), LakeWind.LOST);
        due("fault", x.fault(), 1);
        due("lane ahead of nothing", x.cell(3, 0, 3), LakeWind.LOST);
        due("fault", x.fault(), 0);
        x.put(3, 0, 0);
        due("no sheet", x.cell(4, 0, 0), LakeWind.LOST);
        due("fault", x.fault(), 0);
        due("put nothing", x.put(3, -1, 0), -11);
        due("put no sheet", x.put(-1, -1, 0), LakeWind.UNKNOWN);
        due("put no sheet", x.put(4, 0, 0), LakeWind.UNKNOWN);
        due("fault", x.fault(), 0);
    }

    private static void copy() {
        promise = "20 copy";
        LakeWind x = new LakeWind();
        x.sheet(0, 1, 6);
        x.sheet(1, 1, 4);
        x.sheet(2, 2, 4);
        for (int i = 0; i < 6; i++) {
            x.put(0, i, 10 + i);
        }
        due("to another", x.copy(0, 1, 1, 2, 2), 2);
        due("came", x.cell(1, 2, 1), 11);
        due("came", x.cell(1, 3, 1), 12);
        due("did not", x.cell(1, 1, 1), 0);
        due("to the same, up", x.copy(0, 0, 0, 1, 5), 5);
        for (int i = 1; i < 6; i++) {
            due("as they were", x.cell(0, i, 1), 9 + i);
        }
        due("to the same, down", x.copy(0, 1, 0, 0, 5), 5);
        for (int i = 0; i < 5; i++) {
            due("as they were", x.cell(0, i, 1), 10 + i);
        }
        due("none", x.copy(0, 6, 1, 4, 0), 0);
        due("none, beyond", x.copy(0, 7, 1, 4, 0), -13);
        due("none, beyond there", x.copy(0, 6, 1, 5, 0), -13);
        due("none, below", x.copy(0, -1, 1, 0, 0), -13);
        due("none, below there", x.copy(0, 0, 1, -1, 0), -13);
        due("too many", x.copy(0, 2, 1, 0, 5), -13);
        due("too many there", x.copy(0, 0, 1, 0, 5), -13);
        due("below 0", x.copy(0, 0, 1, 0, -1), -13);
        due("that wraps", x.copy(0, 1, 1, 1, MOST), -13);
        due("fault", x.fault(), 3);
        due("cast ahead of index", x.copy(0, -1, 2, 0, 1), -12);
        due("fault", x.fault(), 2);
        due("null ahead of cast", x.copy(3, -1, 2, 0, 1), -11);
        due("null there", x.copy(0, -1, 3, 0, 1), -11);
        due("null twice", x.copy(3, 0, 3, 0, 0), -11);
        due("fault", x.fault(), 1);
        due("no sheet", x.copy(4, 0, 3, 0, 0), LakeWind.UNKNOWN);
        due("no sheet there", x.copy(3, 0, 4, 0, 0), LakeWind.UNKNOWN);
        due("no sheet there", x.copy(3, 0, -1, 0, 0), LakeWind.UNKNOWN);
        due("fault", x.fault(), 0);
    }

    private static void tellAndHail() {
        promise = "21 tell, 22 hail, 24 trace";
        due("no boat", new LakeWind().tell(0), LakeWind.UNKNOWN);
        due("no boat", new LakeWind().hail(0), LakeWind.UNKNOWN);
        LakeWind x = at("w20;>,t03,o02,b01");
        due("towed", x.tell(0), 106);
        int trace = ((3 * 31 + 2) * 31 + 1) * 31 + 1;
        due("trace", x.trace(), trace);
        due("oared", x.tell(1), 102);
        trace = (trace * 31 + 2) * 31 + 1;
        due("trace", x.trace(), trace);
        due("boat", x.tell(2), 1);
        trace = trace * 31 + 1;
        due("trace", x.trace(), trace);
        due("towed", x.hail(0), 70);
        trace = trace * 31 + 5;
        due("trace", x.trace(), trace);
        due("oared", x.hail(1), 1);
        due("boat", x.hail(2), 2);
        trace = (trace * 31 + 4) * 31 + 4;
        due("trace", x.trace(), trace);
        due("no boat", x.tell(3), LakeWind.UNKNOWN);
        due("no boat", x.tell(-1), LakeWind.UNKNOWN);
        due("no boat", x.hail(3), LakeWind.UNKNOWN);
        due("no boat", x.hail(-1), LakeWind.UNKNOWN);
        due("trace", x.trace(), trace);
        lakeBy(x, ONE);
        due("a lake leaves the trace", x.trace(), trace);
    }

    private static void as() {
        promise = "23 as";
        due("no boat", new LakeWind().as(0, 9), LakeWind.UNKNOWN);
        LakeWind x = at("w20;>,b03,o02,t01");
        for (int b = 0; b < 3; b++) {
            for (int kind = 0; kind < 3; kind++) {
                due("as(" + b + ", " + kind + ")", x.as(b, kind), b >= kind ? 1 : -12);
                due("fault", x.fault(), b >= kind ? 0 : 2);
            }
            due("kind", x.as(b, 3), LakeWind.OUTSIDE);
            due("kind", x.as(b, -1), LakeWind.OUTSIDE);
        }
        x.as(0, 2);
        due("no boat", x.as(3, 0), LakeWind.UNKNOWN);
        due("fault", x.fault(), 0);
    }

    private static void faultIsKept() {
        promise = "25 fault";
        LakeWind x = at(THREE);
        x.reading(0, 0, 1);
        x.put(3, 0, 0);
        due("put", x.fault(), 1);
        x.ofBoat(0, 0);
        x.wind(0, 1);
        x.isle(2, true);
        x.soonest(1);
        x.hats(1, 1);
        x.rid(0);
        x.reading(9, 0, 0);
        x.back(0);
        x.lose(2);
        x.lose(4);
        x.tell(0);
        x.hail(0);
        x.trace();
        x.many(0);
        due("calls that name none leave it", x.fault(), 1);
        due("fault leaves it, too", x.fault(), 1);
        x.sheet(1, 2, 1);
        due("sheet came to none", x.fault(), 0);
        x.put(3, 0, 0);
        x.plan(1, 2, 0, 1, 0);
        due("plan came to none", x.fault(), 0);
        x.put(3, 0, 0);
        x.odds(1, 2, 0, 1, 0);
        due("odds came to none", x.fault(), 0);
        x.put(3, 0, 0);
        x.winds(0, 1, 2, 0, 1);
        due("winds came to none", x.fault(), 0);
        x.put(3, 0, 0);
        x.kinds(0, 1, 2, 0, 1);
        due("kinds came to none", x.fault(), 0);
        x.put(3, 0, 0);
        x.speeds(0, 1, 2, 0, 1);
        due("speeds came to none", x.fault(), 0);
        x.put(3, 0, 0);
        x.copy(1, 0, 1, 0, 1);
        due("copy came to none", x.fault(), 0);
        x.put(3, 0, 0);
        x.cell(1, 0, 2);
        due("cell came to none", x.fault(), 0);
        x.put(3, 0, 0);
        x.lake(1, 2, 0, 1);
        due("a text's first fault is none of them", x.fault(), 0);
        x.put(3, 0, 0);
        x.sheet(1, 0, 61);
        due("a refusal", x.fault(), 0);
    }

    private static void many() {
        promise = "26 many";
        LakeWind x = at(THREE);
        x.reading(0, 0, 0);
        due("boats", x.many(0), 3);
        due("WIDE", x.many(1), 4);
        due("hours", x.many(2), 6);
        due("readings", x.many(3), 1);
        due("what", x.many(4), LakeWind.OUTSIDE);
        due("what", x.many(-1), LakeWind.OUTSIDE);
    }
}
