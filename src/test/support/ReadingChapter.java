/** Where boats were, and odds; promises 10 to 15. */
final class ReadingChapter extends Chapter {
    private static final ByPlan WINDS = new ByPlan("winds", false) {
        @Override
        long ask(LakeWind x, int sheet, int lane, int i, int n) {
            return x.winds(0, sheet, lane, i, n);
        }
    };
    private static final ByPlan KINDS = new ByPlan("kinds", false) {
        @Override
        long ask(LakeWind x, int sheet, int lane, int i, int n) {
            return x.kinds(0, sheet, lane, i, n);
        }
    };
    private static final ByPlan SPEEDS = new ByPlan("speeds", false) {
        @Override
        long ask(LakeWind x, int sheet, int lane, int i, int n) {
            return x.speeds(0, sheet, lane, i, n);
        }
    };
    private static final ByPlan ODDS = new ByPlan("odds", true) {
        @Override
        long ask(LakeWind x, int sheet, int lane, int i, int n) {
            return x.odds(sheet, lane, i, n, 0);
        }
    };

    static void read() {
        terms();
        says("READINGS, 8 at most, numbered by how many there are: behind an HOUR a BOAT was in a CELL.", ReadingChapter::eightAtMost);
        says("All by a PLAN that is told: in place of what it is alone, by which all READINGS are so", ReadingChapter::allAreSo);
        says("(of HOURS that are not told by the PLAN none is so):", ReadingChapter::hoursThatAreNotTold);
        says("WINDS of an HOUR: 0 .. 2, as a set;", ReadingChapter::windsAsSet);
        says("KINDS of a BOAT: 0 .. 2, as a set;", ReadingChapter::kindsAsSet);
        says("SPEEDS of a BOAT: 1 .. 3, as a set.", ReadingChapter::speedsAsSet);
        says("ODDS of a PLAN: if in each of its HOURS the WIND is > or <, both alike: the share by which nobody is FINED.",
            ReadingChapter::bothWindsAlike);
        promise(10);
        says("A READING: its number.", ReadingChapter::numberOfReading);
        says("UNKNOWN: BOAT; OUTSIDE: hour (0 .. 9), c (0 .. WIDE);", ReadingChapter::readingRefused);
        says("FULL.", ReadingChapter::fullOfReadings);
        promise(11);
        says("The last k READINGS (0 .. as many as there are) are taken back: how many are left.", ReadingChapter::takenBack);
        says("OUTSIDE.", ReadingChapter::backRefused);
        promise(12);
        says("WINDS of an HOUR by such a PLAN, as a set.", ReadingChapter::windsOfEachHour);
        says("OUTSIDE: hour (one that there is; without a LAKE any is none);", ReadingChapter::windsOfNoHour);
        says("UNKNOWN: SHEET; OUTSIDE: lane, n; else as plan().", () -> refusals(WINDS));
        promise(13);
        says("KINDS by such a PLAN, as a set.", ReadingChapter::kindsOfEachBoat);
        says("UNKNOWN: BOAT, SHEET; OUTSIDE: lane, n; else as plan().", ReadingChapter::kindsRefused);
        promise(14);
        says("SPEEDS by such a PLAN, as a set.", ReadingChapter::speedsOfEachBoat);
        says("UNKNOWN: BOAT, SHEET; OUTSIDE: lane, n; else as plan().", ReadingChapter::speedsRefused);
        promise(15);
        says("ODDS (which 0 the upper, 1 the lower number).", ReadingChapter::upperAndLower);
        says("LOST: UNKNOWN: SHEET; OUTSIDE: lane, n, which; else as plan().", ReadingChapter::oddsRefused);
    }

    private static void refusals(ByPlan call) {
        call.noSheet();
        call.noLaneOrTooManyHours();
        call.elseAsPlan();
    }

    private static void eightAtMost() {
        LakeWind x = at("w4000;>,b01");
        for (int r = 0; r < 8; r++) {
            due("number", x.reading(0, 0, 1), r);
        }
        due("a ninth", x.reading(0, 0, 1), LakeWind.FULL);
        due("eight", x.many(3), 8);
        due("seven", x.back(1), 7);
        due("the eighth again", x.reading(0, 0, 1), 7);
        order(x, 1);
        due("behind the hour it was in 1", x.winds(0, 1, 2, 0, 1), 6);
        x.back(8);
        x.reading(0, 0, 0);
        due("behind the hour it was in 0", x.winds(0, 1, 2, 0, 1), 1);
    }

    private static void allAreSo() {
        LakeWind x = at("w4000;><,b01,o11");
        int n = order(x, 3, 3);
        x.reading(0, 0, 1);
        due("one is so", x.winds(0, 1, 2, 0, n), 6);
        x.reading(1, 0, 2);
        due("both are so: the oared one goes 2 by > alone", x.winds(0, 1, 2, 0, n), 2);
        x.reading(0, 1, 2);
        due("three are so", x.winds(0, 1, 2, 0, n), 2);
        x.reading(0, 0, 2);
        due("one of the same boat and hour that is not", x.winds(0, 1, 2, 0, n), 0);
        due("nor by another kind", x.kinds(0, 1, 2, 0, n), 0);
        due("nor by another speed", x.speeds(0, 1, 2, 0, n), 0);
        x.back(1);
        due("the other boat stays as it is", x.kinds(0, 1, 2, 0, n), 5);
        x.wind(0, 2);
        due("the other hour stays as it is", x.winds(1, 1, 2, 0, n), 0);
        due("nothing else is in place of what it is", x.kinds(1, 1, 2, 0, n), 0);
    }

    private static void hoursThatAreNotTold() {
        LakeWind x = at("w4000;>>>,b01");
        order(x, 1, 1, 1);
        for (int n = 0; n <= 3; n++) {
            due("no readings, hours " + n, x.winds(0, 1, 2, 0, n), 7);
            due("no readings, hours " + n, x.kinds(0, 1, 2, 0, n), 7);
            due("no readings, hours " + n, x.speeds(0, 1, 2, 0, n), 14);
        }
        x.reading(0, 1, 2);
        for (int n = 0; n <= 3; n++) {
            due("reading behind hour 1, hours " + n, x.winds(0, 1, 2, 0, n), n < 2 ? 0 : 6);
            due("reading behind hour 1, hours " + n, x.kinds(0, 1, 2, 0, n), n < 2 ? 0 : 7);
            due("reading behind hour 1, hours " + n, x.speeds(0, 1, 2, 0, n), n < 2 ? 0 : 2);
        }
        x.reading(0, 9, 4);
        due("an hour that the lake has not", x.winds(0, 1, 2, 0, 3), 0);
        due("an hour that the lake has not", x.kinds(0, 1, 2, 0, 3), 0);
        due("an hour that the lake has not", x.speeds(0, 1, 2, 0, 3), 0);
        LakeWind ten = at("w4000;>>>>>>>>>>,b01");
        ten.sheet(1, 2, 10);
        ten.reading(0, 9, 0);
        due("the last hour of ten", ten.winds(9, 1, 2, 0, 10), 7);
        due("the last hour of ten is not told by nine", ten.winds(9, 1, 2, 0, 9), 0);
    }

    private static void windsAsSet() {
        int[] byCell = {1, 2, 4, 0, 0};
        for (int c = 0; c <= 4; c++) {
            LakeWind x = at("w4000;.,o01");
            order(x, 1);
            x.reading(0, 0, c);
            due("an oared one in " + c, x.winds(0, 1, 2, 0, 1), byCell[c]);
        }
        int[] byDrift = {4, 1, 2, 0, 0};
        for (int c = 0; c <= 4; c++) {
            LakeWind x = at("w4000;>.,b01");
            order(x, 1, 0);
            x.reading(0, 1, c);
            due("one that drifts to " + c, x.winds(1, 1, 2, 0, 2), byDrift[c]);
        }
        LakeWind x = at("w4000;>.,b01");
        order(x, 0);
        x.reading(0, 0, 0);
        due("one that stays", x.winds(0, 1, 2, 0, 1), 7);
    }

    private static void kindsAsSet() {
        int[] byCell = {0, 5, 2, 0, 0};
        for (int c = 0; c <= 4; c++) {
            LakeWind x = at("w4000;<,t01");
            order(x, 1);
            x.reading(0, 0, c);
            due("against the wind in " + c, x.kinds(0, 1, 2, 0, 1), byCell[c]);
        }
        LakeWind x = at("w4000;>,t01");
        order(x, 1);
        x.reading(0, 0, 1);
        due("with the wind", x.kinds(0, 1, 2, 0, 1), 7);
        due("its own kind stays", x.ofBoat(0, 0), 2);
    }

    private static void speedsAsSet() {
        int[] byCell = {0, 2, 4, 8, 0};
        int[] oaredAgainst = {0, 0, 2, 4, 8};
        for (int c = 0; c <= 4; c++) {
            LakeWind x = at("w4000;>,b03");
            order(x, 1);
            x.reading(0, 0, c);
            due("in " + c, x.speeds(0, 1, 2, 0, 1), byCell[c]);
            LakeWind y = at("w4000;<,o03");
            order(y, 1);
            y.reading(0, 0, c);
            due("an oared one against the wind in " + c, y.speeds(0, 1, 2, 0, 1), oaredAgainst[c]);
        }
        LakeWind x = at("w20;>,b01");
        order(x, 1);
        x.reading(0, 0, 2);
        due("at the shore at most", x.speeds(0, 1, 2, 0, 1), 12);
        due("its own speed stays", x.ofBoat(0, 2), 1);
    }

    private static void bothWindsAlike() {
        share("w4000;>,b01,b01", 1, 2, 3);
        share("w4000;<,b01,b01", 1, 2, 3);
        share("w4000;.,b01,b01", 1, 2, 3);
        share("w4000;.,b11,o11", 1, 2, 3);
        share("w4000;.,b01,b11", 1, 1, 3);
        share("w4000;.,b01,t01", 1, 1, 3);
        share("w4000;.,b01", 1, 1, 1);
        share("w4000;..,b01,b01", 1, 4, 3, 3);
        share("w4000;..,b01,b01,b11", 1, 4, 7, 7);
        // Two go in both hours; by < < both are over, by < > they are fined in the second hour.
        share("w20;..,b01,b01", 1, 4, 3, 3);
        // Behind < they are over, so nobody goes in the second hour.
        share("w20;..,b02,b02", 1, 2, 3, 3);
        // The winds of the lake's other hours are of no matter.
        share("w4000;.>>>,b01,b01", 1, 2, 3);
        share("w4000;..........,b01,b02", 391, 1024, 3, 1, 0, 0, 1, 0, 3, 1, 3, 3);
    }

    private static void numberOfReading() {
        LakeWind x = at(THREE);
        due("the first", x.reading(0, 0, 0), 0);
        due("the same again", x.reading(0, 0, 0), 1);
        due("another", x.reading(2, 9, 4), 2);
        x.back(2);
        due("behind one that is left", x.reading(1, 5, 2), 1);
    }

    private static void readingRefused() {
        LakeWind x = at(THREE);
        for (int b : beyond(0, 2)) {
            due("boat " + b, x.reading(b, 0, 0), LakeWind.UNKNOWN);
            due("boat " + b + " ahead of hour and cell", x.reading(b, 10, 5), LakeWind.UNKNOWN);
        }
        for (int hour : beyond(0, 9)) {
            due("hour " + hour, x.reading(0, hour, 0), LakeWind.OUTSIDE);
        }
        for (int c : beyond(0, 4)) {
            due("cell " + c, x.reading(0, 0, c), LakeWind.OUTSIDE);
        }
        due("hour 9, though there are six, and WIDE", x.reading(2, 9, 4), 0);
        due("hour 0, cell 0", x.reading(0, 0, 0), 1);
        LakeWind narrow = at(ONE);
        due("beyond a narrow lake", narrow.reading(0, 0, 3), LakeWind.OUTSIDE);
        due("at its shore", narrow.reading(0, 0, 2), 0);
        due("a boat that it has not", narrow.reading(1, 0, 0), LakeWind.UNKNOWN);
        due("no lake", new LakeWind().reading(0, 0, 0), LakeWind.UNKNOWN);
    }

    private static void fullOfReadings() {
        LakeWind x = Refusals.full();
        due("full", x.reading(0, 0, 0), LakeWind.FULL);
        due("full again", x.reading(2, 9, 4), LakeWind.FULL);
        due("cell ahead of it", x.reading(0, 0, 5), LakeWind.OUTSIDE);
        due("hour ahead of it", x.reading(0, 10, 0), LakeWind.OUTSIDE);
        due("boat ahead of it", x.reading(3, 0, 0), LakeWind.UNKNOWN);
        due("eight are left as they were", x.many(3), 8);
    }

    private static void takenBack() {
        for (int k = 0; k <= 8; k++) {
            LakeWind x = Refusals.full();
            due("back(" + k + ")", x.back(k), 8 - k);
            due("readings behind it", x.many(3), 8 - k);
        }
        due("none of none", new LakeWind().back(0), 0);
        due("none of none", at(ONE).back(0), 0);
        LakeWind x = at("w4000;>,o01");
        order(x, 1);
        x.reading(0, 0, 1);
        x.reading(0, 0, 2);
        x.reading(0, 0, 3);
        due("all three", x.winds(0, 1, 2, 0, 1), 0);
        x.back(2);
        due("the first is left", x.winds(0, 1, 2, 0, 1), 2);
        x.reading(0, 0, 1);
        due("those taken back do not come back", x.winds(0, 1, 2, 0, 1), 2);
    }

    private static void backRefused() {
        for (int many : new int[] {0, 1, 8}) {
            LakeWind x = Refusals.full();
            x.back(8 - many);
            for (int k : beyond(0, many)) {
                due("back(" + k + ") of " + many, x.back(k), LakeWind.OUTSIDE);
            }
            due("as many as there were", x.many(3), many);
        }
        due("no lake", new LakeWind().back(1), LakeWind.OUTSIDE);
    }

    private static void windsOfEachHour() {
        LakeWind x = at("w4000;>.<,b01");
        int n = order(x, 1, 0, 1);
        x.reading(0, 1, 2);
        due("hour 0", x.winds(0, 1, 2, 0, n), 0);
        due("hour 1", x.winds(1, 1, 2, 0, n), 2);
        due("hour 2", x.winds(2, 1, 2, 0, n), 0);
        x.wind(1, 1);
        due("hour 2, when the readings are so", x.winds(2, 1, 2, 0, n), 7);
        due("an hour that the plan does not tell", x.winds(2, 1, 2, 0, 2), 7);
        due("the wind stays", x.wind(1, 1), 1);
        due("by a plan from 2 on", x.winds(0, 1, 2, 2, 1), 0);
    }

    private static void windsOfNoHour() {
        for (int hours : new int[] {1, 6, 10}) {
            LakeWind x = at("w20;" + ">".repeat(hours) + ",b01");
            order(x, 1);
            due("the last hour", x.winds(hours - 1, 1, 2, 0, 1), 7);
            for (int hour : beyond(0, hours - 1)) {
                x.put(3, 0, 0);
                dueWithFault("hour " + hour + " of " + hours, x, x.winds(hour, 1, 2, 0, 1), LakeWind.OUTSIDE, 0);
                dueWithFault("hour " + hour + " ahead of the sheet", x, x.winds(hour, 4, 2, 0, 1), LakeWind.OUTSIDE, 0);
            }
        }
        LakeWind dry = Refusals.dry();
        for (int hour : new int[] {LEAST, -1, 0, 1, 9, 10, MOST}) {
            dueWithFault("no lake, hour " + hour, dry, dry.winds(hour, 1, 2, 0, 1), LakeWind.OUTSIDE, 0);
            dueWithFault("no lake, no sheet, hour " + hour, dry, dry.winds(hour, 4, 2, 0, 1), LakeWind.OUTSIDE, 0);
        }
    }

    private static void kindsOfEachBoat() {
        LakeWind x = at("w4000;<,b01,o01,t12");
        int n = order(x, 7);
        x.reading(0, 0, 1);
        due("boat 0: 1 against the wind", x.kinds(0, 1, 2, 0, n), 5);
        due("boat 1 is free", x.kinds(1, 1, 2, 0, n), 7);
        x.reading(1, 0, 2);
        due("boat 1: 2 against the wind", x.kinds(1, 1, 2, 0, n), 2);
        due("boat 2 is free", x.kinds(2, 1, 2, 0, n), 7);
        x.reading(2, 0, 2);
        due("boat 2: 2 with the wind", x.kinds(2, 1, 2, 0, n), 7);
        x.reading(2, 0, 3);
        due("boat 2: by no kind", x.kinds(2, 1, 2, 0, n), 0);
    }

    private static void kindsRefused() {
        refusals(KINDS);
        LakeWind x = Refusals.stocked();
        for (int b : beyond(0, 2)) {
            dueWithFault("boat " + b, x, x.kinds(b, 1, 2, 0, 6), LakeWind.UNKNOWN, 0);
            dueWithFault("boat " + b + " ahead of all else", x, x.kinds(b, 3, 3, -1, 11), LakeWind.UNKNOWN, 0);
        }
        LakeWind dry = Refusals.dry();
        dueWithFault("no lake", dry, dry.kinds(0, 1, 2, 0, 0), LakeWind.UNKNOWN, 0);
    }

    private static void speedsOfEachBoat() {
        LakeWind x = at("w4000;<,b01,o01,t12");
        int n = order(x, 7);
        x.reading(0, 0, 1);
        due("boat 0", x.speeds(0, 1, 2, 0, n), 2);
        due("boat 1 is free", x.speeds(1, 1, 2, 0, n), 14);
        x.reading(2, 0, 1);
        due("boat 2 goes 3", x.speeds(2, 1, 2, 0, n), 8);
        due("boat 1 is no help", x.speeds(1, 1, 2, 0, n), 0);
        x.reading(2, 0, 4);
        due("boat 2: by no speed", x.speeds(2, 1, 2, 0, n), 0);
    }

    private static void speedsRefused() {
        refusals(SPEEDS);
        LakeWind x = Refusals.stocked();
        for (int b : beyond(0, 2)) {
            dueWithFault("boat " + b, x, x.speeds(b, 1, 2, 0, 6), LakeWind.UNKNOWN, 0);
            dueWithFault("boat " + b + " ahead of all else", x, x.speeds(b, 3, 3, -1, 11), LakeWind.UNKNOWN, 0);
        }
        LakeWind dry = Refusals.dry();
        dueWithFault("no lake", dry, dry.speeds(0, 1, 2, 0, 0), LakeWind.UNKNOWN, 0);
    }

    private static void upperAndLower() {
        share("w4000;.,b01", 1, 1);
        share("w20;...,b01,b01", 3, 8, 3, 0, 3);
        share("w4111;....,b01,b01", 1, 16, 3, 3, 3, 3);
        share("w300;..........,b11,b11,o11", 43, 256, 7, 0, 7, 4, 7, 3, 0, 3, 6, 1);
    }

    private static void oddsRefused() {
        refusals(ODDS);
        LakeWind x = Refusals.stocked();
        for (int which : beyond(0, 1)) {
            dueWithFault("which " + which, x, x.odds(1, 2, 0, 6, which), LakeWind.LOST, 0);
            dueWithFault("which " + which + " ahead of cast", x, x.odds(1, 1, 0, 6, which), LakeWind.LOST, 0);
            dueWithFault("which " + which + " ahead of nothing", x, x.odds(3, 1, 0, 6, which), LakeWind.LOST, 0);
            dueWithFault("which " + which + " ahead of index", x, x.odds(1, 2, -1, 6, which), LakeWind.LOST, 0);
        }
        LakeWind dry = Refusals.dry();
        dueWithFault("no lake", dry, dry.odds(1, 2, 0, 0, 0), LakeWind.LOST, 0);
        dueWithFault("no lake, behind index", dry, dry.odds(1, 2, 8, 0, 0), LakeWind.LOST, 3);
    }
}
