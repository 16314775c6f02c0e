/** The soonest, hats, how long all wait for one; promises 7 to 9. */
final class SearchChapter extends Chapter {
    private static final String TEN_CALMS = "w20;..........,b01";

    static void read() {
        terms();
        says("SOONEST for a set of BOATS: the fewest HOURS (0 to as many as there are) in which all of it are OVER,",
            SearchChapter::fewestHours);
        says("by any PLAN by which nobody at all is FINED (the others may do what they like); NONE.", SearchChapter::nobodyIsFined);
        says("HATS for a set and so many HOURS: the fewest HOURS (2 at most) whose WINDS are to be other ones (each any)",
            SearchChapter::twoHatsAtMost);
        says("so that SOONEST is no more than that:", SearchChapter::inTime);
        says("the HOURS as a set, of several with as few the least; NONE: by none.", SearchChapter::leastOfSets);
        says("RID of a BOAT: how many HOURS SOONEST of all BOATS is more than that of all others;", SearchChapter::waitForOne);
        says("NONE: there is no SOONEST of all.", SearchChapter::allAreNeverOver);
        promise(7);
        says("SOONEST; NONE.", SearchChapter::soonestOrNone);
        says("STATE: there is no LAKE; OUTSIDE: set.", SearchChapter::soonestRefused);
        promise(8);
        says("HATS, as a set of HOURS; NONE.", SearchChapter::hatsOrNone);
        says("STATE: there is no LAKE; OUTSIDE: set, n (0 .. 10).", SearchChapter::hatsRefused);
        promise(9);
        says("RID; NONE.", SearchChapter::ridOrNone);
        says("UNKNOWN.", SearchChapter::ridRefused);
    }

    private static void fewestHours() {
        due("nobody, in only calms", at(TEN_CALMS).soonest(0), 0);
        due("nobody of three", at(THREE).soonest(0), 0);
        due("the only hour", at("w20;>,b02").soonest(1), 1);
        due("all of ten hours", at("w20;>........>,b01").soonest(1), 10);
        due("one wind too few of ten", at("w20;>.........,b01").soonest(1), LakeWind.NONE);
        due("only calms", at(TEN_CALMS).soonest(1), LakeWind.NONE);
        due("an hour too few", at("w4000;>>>,b01").soonest(1), LakeWind.NONE);
        due("just enough", at("w4000;>>>>,b01").soonest(1), 4);
        due("more than enough", at("w4000;>>>>>,b01").soonest(1), 4);
        due("against it an oared one is sooner", at("w4000;<<<<,o01").soonest(1), 2);
        due("all of the set", at("w4000;>>>>,b02,b11").soonest(3), 4);
        due("the sooner one alone", at("w4000;>>>>,b02,b11").soonest(1), 2);
    }

    private static void nobodyIsFined() {
        due("two in one hour with it", at("w20;>,b02,b02").soonest(3), LakeWind.NONE);
        due("two in two hours with it", at("w20;>>,b02,b02").soonest(3), 2);
        due("three in three", at("w20;>>>,b02,o02,b02").soonest(7), 3);
        due("three against it", at("w20;<,b02,b02,b02").soonest(7), 1);
        due("towed ones and one that counts", at("w20;>,t02,b02,t02").soonest(7), 1);
        due("one of each shore", at("w20;>,b02,b12").soonest(3), 1);
        due("others stay", at("w20;>,b02,b02,b02").soonest(2), 1);
        due("others may be over, too", at("w20;<,b02,b02,b02").soonest(2), 1);
        due("others that are never over", at("w4000;>,b13,b01").soonest(1), LakeWind.NONE);
        due("one drifts while the other goes", at("w20;>>>,b01,b01").soonest(3), 3);
        due("three from WIDE, one at a time", at("w4111;<<<<<<<<<<,b12,b12,b13").soonest(7), 6);
        due("three from WIDE, drifting", at("w4000;<<<<<<<<<<,b11,b11,b11").soonest(7), 6);
        due("three from WIDE, at once", at("w4111;>>>>>>>>>>,b11,b11,o11").soonest(7), 4);
        due("on an isle none drifts", at("w21;>>>,b01,b01").soonest(3), LakeWind.NONE);
        due("nor sooner than in four", at("w21;>>>>,b01,b01").soonest(3), 4);
    }

    private static void twoHatsAtMost() {
        due("none", at("w20;>>,b01").hats(1, 2), 0);
        due("one", at("w20;>.,b01").hats(1, 2), 2);
        due("two", at("w20;..,b01").hats(1, 2), 3);
        due("three are too many", at("w300;...,b01").hats(1, 3), LakeWind.NONE);
        due("three of ten are too many", at("w4000;>.........,b01").hats(1, 10), LakeWind.NONE);
        due("two of ten", at("w4000;>>........,b01").hats(1, 10), 12);
        due("to the other wind", at("w20;>,b02,b02").hats(3, 1), 1);
        due("to the other wind, down", at("w20;<,b12,b12,b12").hats(7, 1), 1);
        due("a calm to each wind", at("w20;.,b02,b02").hats(3, 1), 1);
        due("one to the other wind, as one drifts then", at("w20;>>,b01,b01").hats(3, 2), 1);
        due("two to the other wind, as none drifts", at("w21;>>,b01,b01").hats(3, 2), 3);
        due("two calms to winds that are unlike", at("w300;..,o01,o11").hats(3, 2), 3);
        due("one calm to the wind that is unlike", at("w300;>.,o01,o11").hats(3, 2), 2);
        due("one wind to the one that is unlike", at("w300;>>,o01,o11").hats(3, 2), 1);
    }

    private static void inTime() {
        LakeWind x = at("w20;>>>,b02,b02,b02");
        due("in three as it is", x.hats(7, 3), 0);
        due("in two by one", x.hats(7, 2), 1);
        due("in one by one", x.hats(7, 1), 1);
        due("in none at all", x.hats(7, 0), LakeWind.NONE);
        due("nobody in none at all", x.hats(0, 0), 0);
        due("more than there are hours", x.hats(7, 10), 0);
        due("far sooner than in time", at("w20;>>>>,b02").hats(1, 4), 0);
        due("far sooner than in time by one", at("w20;.<<<<<,b03,o02").hats(3, 1), 1);
        due("more than there are, and too few there are", at("w300;..,b01").hats(1, 10), LakeWind.NONE);
        due("more than there are, and just enough by two", at("w20;..,b01").hats(1, 10), 3);
        due("an hour behind them is no help", at("w20;.>,b02").hats(1, 1), 1);
        due("nor are two", at("w4000;>>>>,b01").hats(1, 3), LakeWind.NONE);
        due("the winds stay as they are", x.soonest(7), 3);
        due("wind 0 stays", x.wind(0, 1), 1);
    }

    private static void leastOfSets() {
        due("of four single hours", at("w20;....,b02").hats(1, 4), 1);
        due("of six pairs", at("w20;....,b01").hats(1, 4), 3);
        due("of pairs of calms among winds", at("w4000;>.>..,b01").hats(1, 5), 10);
        due("of single calms among winds", at("w4000;>>>..,b01").hats(1, 5), 8);
        due("none is fewer than any", at("w20;>>..,b01,b11").hats(3, 4), 0);
        due("one greater hour is fewer than two lesser ones", at("w300;>>.,b01").hats(1, 3), 4);
        due("the only two in time", at("w4000;>>........,b01").hats(1, 4), 12);
        due("by none", at(TEN_CALMS).hats(1, 1), LakeWind.NONE);
    }

    private static void waitForOne() {
        LakeWind x = at("w4000;>>>>,b02,b11");
        due("for the slow one", x.rid(1), 2);
        due("for the other one", x.rid(0), 0);
        due("for one alone, all its hours", at("w4000;>>>>,b01").rid(0), 4);
        due("for one alone, all of ten hours", at("w20;>........>,b01").rid(0), 10);
        LakeWind y = at("w20;>>>,b02,b02,b02");
        for (int b = 0; b < 3; b++) {
            due("for the turn of " + b, y.rid(b), 1);
        }
        due("for one that is no hindrance", at("w20;<,b02,b02").rid(0), 0);
    }

    private static void allAreNeverOver() {
        due("nor is one alone", at(ONE).rid(0), LakeWind.NONE);
        LakeWind x = at("w20;>,b02,b01");
        due("though the others are", x.rid(1), LakeWind.NONE);
        due("nor are the others", x.rid(0), LakeWind.NONE);
        due("by fines alone", at("w20;>,b02,b02").rid(0), LakeWind.NONE);
    }

    private static void soonestOrNone() {
        LakeWind x = at(THREE);
        int[] hours = {0, 5, 2, 5, 2, 5, 2, 5};
        for (int set = 0; set < 8; set++) {
            due("soonest(" + set + ")", x.soonest(set), hours[set]);
        }
        due("none", at(ONE).soonest(1), LakeWind.NONE);
    }

    private static void soonestRefused() {
        String[] texts = {"w20;<,b02", "w20;<,b02,b02", "w20;<,b02,b02,b02"};
        for (int boats = 1; boats <= 3; boats++) {
            LakeWind x = at(texts[boats - 1]);
            due("all of " + boats, x.soonest((1 << boats) - 1), 1);
            for (int set : beyond(0, (1 << boats) - 1)) {
                due("set " + set + " of " + boats, x.soonest(set), LakeWind.OUTSIDE);
                due("no lake, set " + set, new LakeWind().soonest(set), LakeWind.STATE);
            }
        }
        due("no lake, no boats", new LakeWind().soonest(0), LakeWind.STATE);
    }

    private static void hatsOrNone() {
        LakeWind x = at(THREE);
        int[] sets = {-9, -9, -9, -9, 8, 0, 0, 0, 0, 0, 0};
        for (int n = 0; n <= 10; n++) {
            due("hats(7, " + n + ")", x.hats(7, n), sets[n]);
            due("hats(0, " + n + ")", x.hats(0, n), 0);
        }
    }

    private static void hatsRefused() {
        for (int set : beyond(0, 7)) {
            due("set " + set, at(THREE).hats(set, 5), LakeWind.OUTSIDE);
            due("no lake ahead of set " + set, new LakeWind().hats(set, 5), LakeWind.STATE);
        }
        due("set 2 of one boat", at(ONE).hats(2, 1), LakeWind.OUTSIDE);
        for (int n : beyond(0, 10)) {
            due("n " + n, at(THREE).hats(7, n), LakeWind.OUTSIDE);
            due("no lake ahead of n " + n, new LakeWind().hats(0, n), LakeWind.STATE);
        }
        due("n 10 of one hour", at(ONE).hats(1, 10), LakeWind.NONE);
        due("no lake", new LakeWind().hats(0, 0), LakeWind.STATE);
    }

    private static void ridOrNone() {
        LakeWind x = at(THREE);
        due("rid(0)", x.rid(0), 3);
        due("rid(1)", x.rid(1), 0);
        due("rid(2)", x.rid(2), 0);
        x.wind(4, 0);
        x.wind(5, 0);
        due("none", x.rid(0), LakeWind.NONE);
    }

    private static void ridRefused() {
        String[] texts = {"w20;<,b02", "w20;<,b02,b02", "w20;<,b02,b02,b02"};
        for (int boats = 1; boats <= 3; boats++) {
            for (int b : beyond(0, boats - 1)) {
                due("boat " + b + " of " + boats, at(texts[boats - 1]).rid(b), LakeWind.UNKNOWN);
            }
        }
        due("no lake", new LakeWind().rid(0), LakeWind.UNKNOWN);
        due("ahead of no soonest of all", at(ONE).rid(1), LakeWind.UNKNOWN);
    }
}
