/** Plans; promise 6. */
final class PlanChapter extends Chapter {
    private static final int OVER = 0, FINES = 1, FIRST_FINE = 2, ALL_OVER = 3, CELL = 10;
    private static final ByPlan CALL = new ByPlan("plan", false) {
        @Override
        long ask(LakeWind x, int sheet, int lane, int i, int n) {
            return x.plan(sheet, lane, i, n, OVER);
        }
    };

    static void read() {
        terms();
        says("A PLAN: HOUR by HOUR a set of BOATS that are to GO (those that are OVER do not).", PlanChapter::overDoNotGo);
        says("In an HOUR with a WIND each of these goes its CELLS (to the other shore at most), all at once.", PlanChapter::atMostToTheShore);
        says("One that does not GO stays at a shore, on an ISLE;", PlanChapter::staysAtShoreAndIsle);
        says("else it DRIFTS 1 CELL with the WIND (to a shore: if that is the one to which it goes, it is OVER).", PlanChapter::drifts);
        says("In a calm nobody moves.", PlanChapter::calm);
        says("FINED in an HOUR are all that GO with the WIND and COUNT, if there are two of them or more.", PlanChapter::fined);
        promise(6);
        says("A PLAN of n HOURS, that are cells of a SHEET from i on (a set each):", PlanChapter::cellsFromOn);
        says("BOATS that are OVER, as a set (what 0),", PlanChapter::overAsSet);
        says("how many fines there are in all (each BOAT in each HOUR; 1),", PlanChapter::finesInAll);
        says("the first HOUR in which one is FINED (2; NONE),", PlanChapter::firstFine);
        says("the first HOUR behind which all are OVER (3; NONE),", PlanChapter::allOver);
        says("the CELL of BOAT b (10 and b; NONE: there is no such BOAT).", PlanChapter::cellOfBoat);
        says("UNKNOWN: SHEET; OUTSIDE: lane, n (0 .. 10), what (0 .. 3, 10 .. 12);", PlanChapter::refused);
        says("FAULTS CAST, NULL, INDEX;", CALL::faults);
        says("STATE: there is no LAKE;", PlanChapter::withoutLake);
        says("OUTSIDE: n is above how many HOURS there are; a cell is no set of BOATS that there are.", CALL::moreThanThereAre);
    }

    private static void overDoNotGo() {
        LakeWind x = at("w20;>>><,b02,b01");
        due("one over, told to go again", planned(x, CELL, 1, 1, 1, 1), 2);
        due("it is not fined with another", planned(x, FINES, 1, 3, 3), 0);
        due("the other one goes", planned(x, CELL + 1, 1, 3, 3), 2);
        due("one that is over by drifting is not fined", planned(at("w20;>>>,b01,b01"), FINES, 1, 0, 3), 0);
        due("one back at the shore from which it comes does go", planned(at("w20;><>,b01"), CELL, 1, 0, 1), 1);
    }

    private static void atMostToTheShore() {
        for (int wide = 2; wide <= 4; wide++) {
            String lake = "w" + wide + "000".substring(0, wide - 1);
            due("fast 3 of " + wide, planned(at(lake + ";>,b03"), CELL, 1), Math.min(3, wide));
            due("4 against the wind of " + wide, planned(at(lake + ";<,o03"), CELL, 1), wide);
            due("down, fast 3 of " + wide, planned(at(lake + ";<,b13"), CELL, 1), Math.max(0, wide - 3));
            due("down, 4 against the wind of " + wide, planned(at(lake + ";>,o13"), CELL, 1), 0);
            due("from the cell ahead of the shore", planned(at(lake + ";" + ">".repeat(wide) + ",b01"), CELL, ones(wide)), wide);
        }
        LakeWind x = at("w20;>,b01,b11");
        due("past each other, all at once", planned(x, CELL, 3), 1);
        due("past each other, all at once", planned(x, CELL + 1, 3), 1);
        due("on through the same cell", planned(at("w20;>>,b01,b11"), OVER, 3, 3), 3);
    }

    private static int[] ones(int many) {
        int[] all = new int[many];
        java.util.Arrays.fill(all, 1);
        return all;
    }

    private static void staysAtShoreAndIsle() {
        for (String wind : new String[] {">", "<"}) {
            due("at its first shore, by " + wind, planned(at("w20;" + wind + ",b01"), CELL, 0), 0);
            due("at its first shore, by " + wind, planned(at("w20;" + wind + ",b11"), CELL, 0), 2);
            due("at the other shore, by " + wind, planned(at("w20;>" + wind + ",b02"), CELL, 1, 0), 2);
            due("at the other shore, by " + wind, planned(at("w20;<" + wind + ",b12"), CELL, 1, 0), 0);
            for (int c = 1; c <= 3; c++) {
                String isles = "000".substring(0, c - 1) + "1" + "000".substring(c);
                due("on the isle at " + c + ", by " + wind, planned(at("w4" + isles + ";>" + wind + ",b0" + c), CELL, 1, 0), c);
            }
        }
        due("from an isle it goes", planned(at("w4100;>>,b01"), CELL, 1, 1), 2);
        due("an isle does not stop one that goes", planned(at("w4100;>,b02"), CELL, 1), 2);
    }

    private static void drifts() {
        for (int c = 1; c <= 3; c++) {
            due("up from " + c, planned(at("w4000;>>,b0" + c), CELL, 1, 0), c + 1);
            due("down from " + c, planned(at("w4000;><,b0" + c), CELL, 1, 0), c - 1);
            due("over by it from " + c, planned(at("w4000;>>,b0" + c), OVER, 1, 0), c == 3 ? 1 : 0);
            due("not over by it from " + c, planned(at("w4000;><,b0" + c), OVER, 1, 0), 0);
            due("over by it down, fast " + c, planned(at("w4000;<<,b1" + c), OVER, 1, 0), c == 3 ? 1 : 0);
        }
        due("1 cell, however fast, against it", planned(at("w4000;<<,o01"), CELL, 1, 0), 1);
        due("again and again", planned(at("w4000;>>>>,b01"), CELL, 1, 0, 0, 0), 4);
        due("to an isle, and no further", planned(at("w4010;>>>>,b01"), CELL, 1, 0, 0, 0), 2);
        due("to the first shore, and no further", planned(at("w4000;><<<,b01"), CELL, 1, 0, 0, 0), 0);
        due("over by it, and then it stays", planned(at("w20;>><<,b01"), CELL, 1, 0, 0, 1), 2);
    }

    private static void calm() {
        LakeWind x = at("w4000;>...,b01,o11,t01");
        for (int b = 0; b < 3; b++) {
            int cell = planned(x, CELL + b, 7);
            due("boat " + b + " goes in none", planned(x, CELL + b, 7, 7, 7, 7), cell);
            due("boat " + b + " drifts in none", planned(x, CELL + b, 7, 0, 0, 0), cell);
        }
        due("nobody is fined in it", planned(at("w4000;.,b01,b01"), FINES, 3), 0);
        due("nobody is fined in it", planned(at("w4000;.,b11,b11"), FINES, 3), 0);
    }

    private static void fined() {
        due("one alone", planned(at("w4000;>,b01"), FINES, 1), 0);
        due("two", planned(at("w4000;>,b01,b01"), FINES, 3), 2);
        due("three", planned(at("w4000;>,b01,b01,b01"), FINES, 7), 3);
        due("two of three", planned(at("w4000;>,b01,b01,b01"), FINES, 5), 2);
        due("two down", planned(at("w4000;<,b11,o11"), FINES, 3), 2);
        due("two against it", planned(at("w4000;<,b01,b01"), FINES, 3), 0);
        due("one with it, two against it", planned(at("w4000;>,b01,b11,b11"), FINES, 7), 0);
        due("two with it, one against it", planned(at("w4000;<,b01,b11,b11"), FINES, 7), 2);
        due("one with it that counts, two towed ones", planned(at("w4000;>,t01,b01,t01"), FINES, 7), 0);
        due("two that count, one towed one", planned(at("w4000;>,o01,t01,b01"), FINES, 7), 2);
        due("one goes, one drifts with it", planned(at("w4000;>>,b01,b01"), FINES, 1, 2), 0);
        due("they go though they are fined", planned(at("w20;>,b02,b02"), OVER, 3), 3);
        due("in one that comes to its shore in it", planned(at("w20;>>,b01,b01"), FINES, 3, 3), 4);
    }

    private static void cellsFromOn() {
        LakeWind x = at("w4000;>>>>>>>>>>,b01,b11");
        for (int lane = 0; lane < 3; lane++) {
            fill(x, 2, lane, 9, 9, 1, 1, 3, -1);
            due("two from 2 on, lane " + lane, x.plan(2, lane, 2, 2, CELL), 2);
            due("three from 2 on, lane " + lane, x.plan(2, lane, 2, 3, CELL + 1), 3);
            due("one from 4 on, lane " + lane, x.plan(2, lane, 4, 1, CELL + 1), 3);
            due("none from 6 on, lane " + lane, x.plan(2, lane, 6, 0, CELL + 1), 4);
        }
        x.sheet(3, 0, 60);
        x.put(3, 50, 1);
        due("ten from 50 on", x.plan(3, 0, 50, 10, CELL), 4);
        due("the same again, as each begins anew", x.plan(3, 0, 50, 1, CELL), 1);
    }

    private static void overAsSet() {
        LakeWind x = at("w20;><,b02,b12,t02");
        for (int set = 0; set < 8; set++) {
            due("those of " + set, planned(x, OVER, set), set);
        }
        due("behind no hours", planned(x, OVER), 0);
        due("boat 2 alone", planned(at("w20;>,b01,b01,b02"), OVER, 4), 4);
    }

    private static void finesInAll() {
        LakeWind x = at("w4111;>>>>>>>>>>,b01,b01,b01");
        due("no hours", planned(x, FINES), 0);
        due("each boat", planned(x, FINES, 7), 3);
        due("each boat in each hour", planned(x, FINES, 7, 7, 7, 7), 12);
        due("in some hours", planned(x, FINES, 3, 4, 5), 4);
        due("until they are over", planned(x, FINES, 7, 7, 7, 7, 7, 7), 12);
        due("each plan's own", planned(x, FINES, 7), 3);
    }

    private static void firstFine() {
        due("in the first hour", planned(at("w4000;>>,b01,b01"), FIRST_FINE, 3, 3), 0);
        due("in the second hour", planned(at("w4000;>>,b01,b01"), FIRST_FINE, 1, 3), 1);
        due("in the last of ten", planned(at("w4000;.........>,b01,b01"), FIRST_FINE, 3, 3, 3, 3, 3, 3, 3, 3, 3, 3), 9);
        due("in none", planned(at("w4000;>>,b01,b01"), FIRST_FINE, 1, 2), LakeWind.NONE);
        due("no hours", planned(at("w4000;>>,b01,b01"), FIRST_FINE), LakeWind.NONE);
        due("a fine behind the plan", planned(at("w4000;.>,b01,b01"), FIRST_FINE, 3), LakeWind.NONE);
        LakeWind x = at("w4000;>>,b01,b01");
        due("a plan with a fine", planned(x, FIRST_FINE, 3), 0);
        due("then one without", planned(x, FIRST_FINE, 1), LakeWind.NONE);
        due("then one with a later one", planned(x, FIRST_FINE, 1, 3), 1);
    }

    private static void allOver() {
        due("behind the first hour", planned(at("w20;>>>,b02,b12"), ALL_OVER, 3), 0);
        due("it is the first", planned(at("w20;>>>,b02,b12"), ALL_OVER, 3, 0, 3), 0);
        due("behind the second", planned(at("w20;>>>,b02,b12"), ALL_OVER, 1, 2), 1);
        due("behind the last of ten", planned(at("w20;.........>,b02"), ALL_OVER, 1, 1, 1, 1, 1, 1, 1, 1, 1, 1), 9);
        LakeWind x = at("w20;>>>,b02,b12");
        due("a plan by which all are", planned(x, ALL_OVER, 3), 0);
        due("then one by which they are not", planned(x, ALL_OVER, 1), LakeWind.NONE);
        due("then one by which they are later", planned(x, ALL_OVER, 1, 2), 1);
        due("fined ones are over, too", planned(at("w20;>,b02,b02"), ALL_OVER, 3), 0);
        due("one is not", planned(at("w20;>>>,b02,b12"), ALL_OVER, 1, 1, 1), LakeWind.NONE);
        due("no hours", planned(at("w20;>>>,b02,b12"), ALL_OVER), LakeWind.NONE);
    }

    private static void cellOfBoat() {
        String[] texts = {"w4000;>,b01", "w4000;>,b01,b13", "w4000;>,b01,b13,t02"};
        int[] cells = {1, 1, 2};
        for (int boats = 1; boats <= 3; boats++) {
            for (int b = 0; b < 3; b++) {
                int want = b < boats ? cells[b] : LakeWind.NONE;
                due("boat " + b + " of " + boats, planned(at(texts[boats - 1]), CELL + b, (1 << boats) - 1), want);
            }
        }
        due("no hours", planned(at("w4000;>,b11"), CELL), 4);
    }

    private static void refused() {
        CALL.noSheet();
        CALL.noLaneOrTooManyHours();
        LakeWind x = at(THREE);
        order(x, 7);
        for (int what : new int[] {LEAST, -1, 4, 5, 9, 13, 14, MOST}) {
            dueWithFault("what " + what, x, x.plan(1, 2, 0, 1, what), LakeWind.OUTSIDE, 0);
            dueWithFault("what " + what + " ahead of nothing", x, x.plan(3, 2, 0, 1, what), LakeWind.OUTSIDE, 0);
            dueWithFault("what " + what + " behind the sheet", x, x.plan(4, 2, 0, 1, what), LakeWind.UNKNOWN, 0);
        }
        for (int what : new int[] {0, 1, 10, 11, 12}) {
            due("what " + what, x.plan(1, 2, 0, 1, what) >= 0 ? 1 : 0, 1);
        }
        LakeWind ten = at("w20;>>>>>>>>>>,b01");
        ten.sheet(1, 2, 10);
        due("n 10", ten.plan(1, 2, 0, 10, CELL), 0);
        due("n 0", ten.plan(1, 2, 0, 0, CELL), 0);
    }

    private static void withoutLake() {
        LakeWind x = new LakeWind();
        fill(x, 1, 2, 0, 99);
        dueWithFault("no hours", x, x.plan(1, 2, 0, 0, OVER), LakeWind.STATE, 0);
        dueWithFault("ahead of more hours than there are", x, x.plan(1, 2, 0, 1, OVER), LakeWind.STATE, 0);
        dueWithFault("ahead of a cell that is no set", x, x.plan(1, 2, 1, 1, OVER), LakeWind.STATE, 0);
        dueWithFault("behind index", x, x.plan(1, 2, 1, 2, OVER), INDEX, 3);
        dueWithFault("behind cast", x, x.plan(1, 0, 0, 1, OVER), CAST, 2);
        dueWithFault("behind null", x, x.plan(0, 0, 0, 1, OVER), NULL, 1);
        dueWithFault("behind what", x, x.plan(1, 2, 0, 1, 4), LakeWind.OUTSIDE, 0);
        dueWithFault("no boat, but no lake ahead of it", x, x.plan(1, 2, 0, 1, CELL), LakeWind.STATE, 0);
    }
}
