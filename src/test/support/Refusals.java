/**
 * Calls that are refused or come to a fault, with their answers and what fault() tells behind them ("kept": what
 * it told before). Where a row has several wrong numbers at once, the first that the call's line tells answers.
 */
final class Refusals {
    /** On stocked(): three boats, WIDE 4, six hours, sheets of lanes 0, 2, 1 with 24, 7, 3 cells, sheet 3 nothing. */
    static final String[] BY_A_LAKE = {
        "lake(4, 3, -1, -1) UNKNOWN 0", "lake(-1, 0, 0, 24) UNKNOWN 0", "lake(3, 3, -1, -1) OUTSIDE 0",
        "lake(0, -1, 0, 24) OUTSIDE 0", "lake(0, 1, -1, -1) CAST 2", "lake(3, 1, -1, -1) NULL 1",
        "lake(0, 0, -1, -1) SIZE 4", "lake(0, 0, -1, 0) INDEX 3", "lake(0, 0, 25, 0) INDEX 3", "lake(0, 0, 1, 24) INDEX 3",
        "lake(0, 0, 0, 23) -123 0", "lake(0, 0, 24, 0) -100 0", "lake(0, 0, 1, 23) -100 0", "lake(2, 1, 0, 3) -100 0",
        "ofBoat(3, 4) UNKNOWN kept", "ofBoat(-1, 0) UNKNOWN kept", "ofBoat(0, 4) OUTSIDE kept", "ofBoat(2, -1) OUTSIDE kept",
        "wind(6, 0) OUTSIDE kept", "wind(-1, 0) OUTSIDE kept", "wind(0, 3) OUTSIDE kept", "wind(0, -1) OUTSIDE kept",
        "isle(0, true) OUTSIDE kept", "isle(4, true) OUTSIDE kept", "isle(-1, true) OUTSIDE kept", "isle(34, true) OUTSIDE kept",
        "plan(4, 3, -1, 11, 4) UNKNOWN 0", "plan(3, 3, -1, 0, 0) OUTSIDE 0", "plan(3, 0, -1, 11, 0) OUTSIDE 0",
        "plan(3, 0, -1, -1, 0) OUTSIDE 0", "plan(3, 0, -1, 0, 4) OUTSIDE 0", "plan(3, 0, -1, 0, 9) OUTSIDE 0",
        "plan(3, 0, -1, 0, 13) OUTSIDE 0", "plan(1, 1, -1, 7, 0) CAST 2", "plan(3, 1, -1, 7, 0) NULL 1",
        "plan(1, 2, -1, 0, 0) INDEX 3", "plan(1, 2, 8, 0, 0) INDEX 3", "plan(1, 2, 1, 7, 0) INDEX 3",
        "plan(1, 2, 0, 7, 0) OUTSIDE 0", "plan(2, 1, 0, 1, 0) OUTSIDE 0", "plan(2, 1, 1, 1, 0) OUTSIDE 0",
        "soonest(8) OUTSIDE kept", "soonest(-1) OUTSIDE kept",
        "hats(8, 0) OUTSIDE kept", "hats(-1, 0) OUTSIDE kept", "hats(7, 11) OUTSIDE kept", "hats(7, -1) OUTSIDE kept",
        "rid(3) UNKNOWN kept", "rid(-1) UNKNOWN kept",
        "reading(3, 10, 5) UNKNOWN kept", "reading(-1, 0, 0) UNKNOWN kept", "reading(0, 10, 0) OUTSIDE kept",
        "reading(0, -1, 0) OUTSIDE kept", "reading(0, 0, 5) OUTSIDE kept", "reading(0, 0, -1) OUTSIDE kept",
        "back(3) OUTSIDE kept", "back(-1) OUTSIDE kept",
        "winds(6, 4, 3, -1, 11) OUTSIDE 0", "winds(-1, 1, 2, 0, 6) OUTSIDE 0", "winds(5, 4, 3, -1, 11) UNKNOWN 0",
        "winds(5, 3, 3, -1, 0) OUTSIDE 0", "winds(5, 3, 0, -1, 11) OUTSIDE 0", "winds(5, 1, 1, -1, 7) CAST 2",
        "winds(5, 3, 1, -1, 7) NULL 1", "winds(5, 1, 2, -1, 0) INDEX 3", "winds(5, 1, 2, 0, 7) OUTSIDE 0",
        "winds(5, 2, 1, 0, 1) OUTSIDE 0",
        "kinds(3, 4, 3, -1, 11) UNKNOWN 0", "kinds(2, 4, 3, -1, 11) UNKNOWN 0", "kinds(2, 3, 3, -1, 0) OUTSIDE 0",
        "kinds(2, 3, 0, -1, 11) OUTSIDE 0", "kinds(2, 1, 1, -1, 7) CAST 2", "kinds(2, 3, 1, -1, 7) NULL 1",
        "kinds(2, 1, 2, -1, 0) INDEX 3", "kinds(2, 1, 2, 0, 7) OUTSIDE 0", "kinds(2, 2, 1, 1, 1) OUTSIDE 0",
        "speeds(3, 4, 3, -1, 11) UNKNOWN 0", "speeds(2, 4, 3, -1, 11) UNKNOWN 0", "speeds(2, 3, 3, -1, 0) OUTSIDE 0",
        "speeds(2, 3, 0, -1, 11) OUTSIDE 0", "speeds(2, 1, 1, -1, 7) CAST 2", "speeds(2, 3, 1, -1, 7) NULL 1",
        "speeds(2, 1, 2, -1, 0) INDEX 3", "speeds(2, 1, 2, 0, 7) OUTSIDE 0", "speeds(2, 2, 1, 1, 1) OUTSIDE 0",
        "odds(4, 2, 0, 6, 0) LOST 0", "odds(3, 3, 0, 6, 0) LOST 0", "odds(3, 0, 0, 11, 0) LOST 0", "odds(3, 0, 0, 6, 2) LOST 0",
        "odds(3, 0, 0, 6, -1) LOST 0", "odds(1, 1, -1, 7, 0) LOST 2", "odds(3, 1, -1, 7, 0) LOST 1",
        "odds(1, 2, -1, 0, 0) LOST 3", "odds(1, 2, 0, 7, 0) LOST 0", "odds(2, 1, 0, 1, 0) LOST 0",
        "sheet(4, 3, 61) UNKNOWN 0", "sheet(-1, 0, 1) UNKNOWN 0", "sheet(0, 3, -1) OUTSIDE 0", "sheet(0, -1, 1) OUTSIDE 0",
        "sheet(0, 0, 61) OUTSIDE 0", "sheet(0, 0, -1) SIZE 4", "sheet(3, 0, -1) SIZE 4",
        "lose(4) UNKNOWN kept", "lose(-1) UNKNOWN kept",
        "put(4, -1, 1) UNKNOWN 0", "put(-1, 0, 1) UNKNOWN 0", "put(3, -1, 1) NULL 1", "put(1, -1, 1) INDEX 3", "put(1, 7, 1) INDEX 3",
        "cell(4, -1, 3) LOST 0", "cell(3, -1, 3) LOST 0", "cell(1, -1, 1) LOST 2", "cell(3, -1, 1) LOST 1", "cell(1, -1, 2) LOST 3",
        "cell(1, 7, 2) LOST 3",
        "copy(4, -1, 3, -1, -1) UNKNOWN 0", "copy(3, -1, 4, -1, -1) UNKNOWN 0", "copy(3, -1, 1, -1, -1) NULL 1",
        "copy(1, -1, 3, -1, -1) NULL 1", "copy(1, -1, 2, -1, -1) CAST 2", "copy(1, -1, 1, 0, 1) INDEX 3",
        "copy(1, 0, 1, -1, 1) INDEX 3", "copy(1, 0, 1, 0, -1) INDEX 3", "copy(1, 1, 1, 0, 7) INDEX 3", "copy(1, 0, 1, 1, 7) INDEX 3",
        "copy(1, 8, 1, 0, 0) INDEX 3", "copy(1, 0, 1, 8, 0) INDEX 3",
        "tell(3) UNKNOWN kept", "tell(-1) UNKNOWN kept", "hail(3) UNKNOWN kept", "hail(-1) UNKNOWN kept",
        "as(3, 3) UNKNOWN 0", "as(-1, 0) UNKNOWN 0", "as(0, 3) OUTSIDE 0", "as(0, -1) OUTSIDE 0", "as(0, 1) CAST 2", "as(1, 2) CAST 2",
        "many(4) OUTSIDE kept", "many(-1) OUTSIDE kept",
    };

    /** On dry(): the same sheets, but no lake. */
    static final String[] WITHOUT_A_LAKE = {
        "ofBoat(0, 4) UNKNOWN kept", "wind(-1, 3) STATE kept", "wind(0, 0) STATE kept", "isle(0, true) STATE kept",
        "isle(1, true) STATE kept", "plan(1, 3, 0, 1, 0) OUTSIDE 0", "plan(1, 1, 0, 1, 0) CAST 2", "plan(3, 2, 0, 1, 0) NULL 1",
        "plan(1, 2, 8, 0, 0) INDEX 3", "plan(1, 2, 0, 0, 0) STATE 0", "plan(2, 1, 0, 1, 0) STATE 0", "soonest(-1) STATE kept",
        "soonest(0) STATE kept", "hats(-1, -1) STATE kept", "hats(0, 0) STATE kept", "rid(0) UNKNOWN kept",
        "reading(0, 10, 5) UNKNOWN kept", "back(1) OUTSIDE kept", "winds(0, 4, 3, -1, 11) OUTSIDE 0", "winds(0, 1, 2, 0, 0) OUTSIDE 0",
        "kinds(0, 1, 2, 0, 0) UNKNOWN 0", "speeds(0, 1, 2, 0, 0) UNKNOWN 0", "odds(1, 2, 0, 0, 0) LOST 0", "odds(1, 1, 0, 0, 0) LOST 2",
        "tell(0) UNKNOWN kept", "hail(0) UNKNOWN kept", "as(0, 3) UNKNOWN 0",
    };

    /** On full(): as stocked(), but with eight readings. */
    static final String[] WITH_ALL_READINGS = {
        "reading(3, 10, 5) UNKNOWN kept", "reading(0, 10, 0) OUTSIDE kept", "reading(0, 0, 5) OUTSIDE kept",
        "reading(0, 0, 0) FULL kept", "reading(2, 9, 4) FULL kept", "back(9) OUTSIDE kept",
    };

    private Refusals() {
    }

    static LakeWind dry() {
        LakeWind x = new LakeWind();
        Hand.write(x, 0, 0, Hand.THREE);
        Hand.fill(x, 1, 2, 7, 1, 6, 7, 5, 7, 7);
        Hand.fill(x, 2, 1, 8, -1, 3);
        x.put(3, 0, 0);
        return x;
    }

    static LakeWind stocked() {
        LakeWind x = dry();
        x.lake(0, 0, 0, Hand.THREE.length());
        x.reading(0, 0, 1);
        x.reading(2, 1, 4);
        x.tell(1);
        x.put(3, 0, 0);
        return x;
    }

    static LakeWind full() {
        LakeWind x = stocked();
        for (int r = 2; r < 8; r++) {
            x.reading(r % 3, r, r % 5);
        }
        return x;
    }

    /** All that can be seen of an object, by some 200 calls that it does not outlive. */
    static String look(LakeWind x) {
        StringBuilder seen = new StringBuilder();
        see(seen, "many", x.many(0), x.many(1), x.many(2), x.many(3));
        see(seen, "trace", x.trace());
        for (int b = 0; b < 3; b++) {
            see(seen, "boat", x.ofBoat(b, 0), x.ofBoat(b, 1), x.ofBoat(b, 2), x.ofBoat(b, 3));
        }
        for (int set = 0; set < 8; set++) {
            see(seen, "soonest", x.soonest(set));
        }
        for (int k = 0; k < 4; k++) {
            lookAtSheet(seen, x, k);
        }
        lookAtReadings(seen, x);
        for (int h = 0; h < 10; h++) {
            see(seen, "wind", x.wind(h, 0));
        }
        see(seen, "isles", x.isle(1, true), x.isle(2, true), x.isle(3, true));
        return seen.toString();
    }

    private static void see(StringBuilder seen, String what, long... answers) {
        seen.append(what);
        for (long answer : answers) {
            seen.append(' ').append(answer);
        }
        seen.append("; ");
    }

    private static void lookAtSheet(StringBuilder seen, LakeWind x, int k) {
        see(seen, "sheet", k);
        for (int lane = 0; lane < 3; lane++) {
            int i = 0;
            while (i <= 60 && x.cell(k, i, lane) != LakeWind.LOST) {
                see(seen, "cell", x.cell(k, i, lane));
                i++;
            }
            see(seen, "fault", x.fault());
        }
    }

    private static void lookAtReadings(StringBuilder seen, LakeWind x) {
        for (int left = x.many(3); left > 0; left--) {
            for (int hour = 0; hour < 6; hour++) {
                see(seen, "winds", x.winds(hour, 1, 2, 0, 6));
            }
            for (int b = 0; b < 3; b++) {
                see(seen, "kinds", x.kinds(b, 1, 2, 0, 6), x.speeds(b, 1, 2, 0, 6));
            }
            see(seen, "back", x.back(1));
        }
    }
}
