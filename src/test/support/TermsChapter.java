import java.util.function.Supplier;

/** What stands ahead of the promises: refusals, faults, sets, shares, and for how many calls an object is used. */
final class TermsChapter extends Chapter {
    static void read() {
        whatItIs();
        says("An object is used for at most 512 calls after it has been made; what later calls answer is free.",
            TermsChapter::lastCallsAreAnswered);
        terms();
        says("REFUSALS, in the order in which a call's line tells them: UNKNOWN (there is no such BOAT, SHEET, place of a row), "
            + "OUTSIDE (another number is not as told), STATE (as told), FULL;", TermsChapter::refusalsInTheirOrder);
        says("they change nothing (but fault(), of a call that names FAULTS).", TermsChapter::refusalsChangeNothing);
        says("FAULTS are the machine's: 1 NULL (there is nothing),", TermsChapter::nothingIsNull);
        says("2 CAST (it is of another lane, kind),", TermsChapter::anotherLaneOrKindIsCast);
        says("3 INDEX (of cells from i on also where i is not 0 .. how many there are, if none of them is taken, too),",
            TermsChapter::indexOfNoCells);
        says("4 SIZE (a length below 0).", TermsChapter::lengthBelowNone);
        says("Of a call the first that is come to, in the order told;", TermsChapter::firstFaultInTheOrderTold);
        says("it answers -10 less it (LOST, where a long is answered, as for refusals) and changes nothing; fault() tells it.",
            TermsChapter::faultsAnswerAndChangeNothing);
        says("NONE is -9.", () -> due("NONE", LakeWind.NONE, -9));
        says("Sets are told as bits (bit k for number k).", TermsChapter::setsAreBits);
        says("Shares are told as upper and lower number (above 0) in least terms.", TermsChapter::sharesInLeastTerms);
    }

    private static void lastCallsAreAnswered() {
        LakeWind x = new LakeWind();
        int calls = 0;
        x.sheet(0, 0, THREE.length());
        for (int c = 0; c < THREE.length(); c++) {
            x.put(0, c, THREE.charAt(c));
        }
        x.lake(0, 0, 0, THREE.length());
        calls += 2 + THREE.length();
        int trace = 0;
        for (; calls < 509; calls++) {
            x.tell(0);
            trace = 31 * trace + 1;
        }
        due("call 510", x.trace(), trace);
        due("call 511", x.hats(7, 4), 8);
        due("call 512", x.soonest(7), 5);
    }

    private static boolean isRefusal(String row) {
        return row.matches(".*\\) (UNKNOWN|OUTSIDE|STATE|FULL|-1\\d\\d|LOST) (0|kept)");
    }

    private static void refusalsInTheirOrder() {
        for (String row : Refusals.BY_A_LAKE) {
            answers(Refusals.stocked(), row, isRefusal(row));
        }
        for (String row : Refusals.WITHOUT_A_LAKE) {
            answers(Refusals.dry(), row, isRefusal(row));
        }
        for (String row : Refusals.WITH_ALL_READINGS) {
            answers(Refusals.full(), row, isRefusal(row));
        }
    }

    private static void refusalsChangeNothing() {
        changeNothing(true);
    }

    private static void faultsAnswerAndChangeNothing() {
        for (String row : Refusals.BY_A_LAKE) {
            answers(Refusals.stocked(), row, !isRefusal(row));
        }
        for (String row : Refusals.WITHOUT_A_LAKE) {
            answers(Refusals.dry(), row, !isRefusal(row));
        }
        changeNothing(false);
    }

    private static void answers(LakeWind x, String row, boolean isMeant) {
        if (isMeant) {
            String[] told = row.substring(row.indexOf(')') + 2).split(" ");
            due(row, callOf(row).on(x), answerOf(told[0]));
            due("fault() behind " + row, x.fault(), told[1].equals("kept") ? 1 : Integer.parseInt(told[1]));
        }
    }

    private static Call callOf(String row) {
        return new Call(row.substring(0, row.indexOf(')') + 1));
    }

    private static long answerOf(String told) {
        switch (told) {
            case "UNKNOWN":
                return -1;
            case "OUTSIDE":
                return -2;
            case "STATE":
                return -3;
            case "FULL":
                return -4;
            case "LOST":
                return Long.MIN_VALUE;
            case "NULL":
                return NULL;
            case "CAST":
                return CAST;
            case "INDEX":
                return INDEX;
            case "SIZE":
                return SIZE;
            default:
                return Long.parseLong(told);
        }
    }

    private static void changeNothing(boolean areRefusals) {
        changeNothing(Refusals.BY_A_LAKE, Refusals::stocked, areRefusals);
        changeNothing(Refusals.WITHOUT_A_LAKE, Refusals::dry, areRefusals);
        changeNothing(Refusals.WITH_ALL_READINGS, Refusals::full, areRefusals);
    }

    private static void changeNothing(String[] rows, Supplier<LakeWind> made, boolean areRefusals) {
        String before = Refusals.look(made.get());
        for (String row : rows) {
            if (isRefusal(row) == areRefusals) {
                LakeWind x = made.get();
                callOf(row).on(x);
                due("what is seen behind " + row, Refusals.look(x), before);
            }
        }
    }

    private static void nothingIsNull() {
        LakeWind x = at(ONE);
        for (String call : new String[] {"lake(3, 0, 0, 9)", "plan(3, 0, 0, 1, 0)", "winds(0, 3, 0, 0, 1)", "kinds(0, 3, 0, 0, 1)",
            "speeds(0, 3, 0, 0, 1)", "put(3, 0, 1)", "copy(3, 0, 0, 0, 1)", "copy(0, 0, 3, 0, 1)"}) {
            dueWithFault(call, x, new Call(call).on(x), NULL, 1);
        }
        for (String call : new String[] {"odds(3, 0, 0, 1, 0)", "cell(3, 0, 0)"}) {
            dueWithFault(call, x, new Call(call).on(x), LakeWind.LOST, 1);
        }
        x.sheet(3, 0, 0);
        dueWithFault("a row of no cells is not nothing", x, x.put(3, 0, 1), INDEX, 3);
        x.lose(3);
        dueWithFault("nothing again", x, x.put(3, 0, 1), NULL, 1);
    }

    private static void anotherLaneOrKindIsCast() {
        for (int has = 0; has < 3; has++) {
            for (int as = 0; as < 3; as++) {
                LakeWind x = at(ONE);
                x.sheet(3, has, 1);
                x.sheet(2, as, 1);
                boolean is = has == as;
                int fault = is ? 0 : 2;
                String lanes = "lane " + has + " as " + as;
                dueWithFault("lake, " + lanes, x, x.lake(3, as, 0, 1), is ? -100 : CAST, fault);
                dueWithFault("plan, " + lanes, x, x.plan(3, as, 0, 1, 10), is ? 0 : CAST, fault);
                dueWithFault("winds, " + lanes, x, x.winds(0, 3, as, 0, 1), is ? 7 : CAST, fault);
                dueWithFault("kinds, " + lanes, x, x.kinds(0, 3, as, 0, 1), is ? 7 : CAST, fault);
                dueWithFault("speeds, " + lanes, x, x.speeds(0, 3, as, 0, 1), is ? 14 : CAST, fault);
                dueWithFault("odds, " + lanes, x, x.odds(3, as, 0, 1, 0), is ? 1 : LakeWind.LOST, fault);
                dueWithFault("cell, " + lanes, x, x.cell(3, 0, as), is ? 0 : LakeWind.LOST, fault);
                dueWithFault("copy, " + lanes, x, x.copy(3, 0, 2, 0, 1), is ? 1 : CAST, fault);
            }
        }
        LakeWind x = at(ONE);
        dueWithFault("a boat as an oared one", x, x.as(0, 1), CAST, 2);
    }

    private static void indexOfNoCells() {
        for (int many : new int[] {0, 1, 60}) {
            LakeWind x = at(ONE);
            x.sheet(3, 0, many);
            x.sheet(2, 0, many);
            for (int i : new int[] {0, many}) {
                dueWithFault("lake of no cells from " + i + " of " + many, x, x.lake(3, 0, i, 0), -100, 0);
                dueWithFault("plan of no cells from " + i + " of " + many, x, x.plan(3, 0, i, 0, 10), 0, 0);
                dueWithFault("winds by no cells from " + i + " of " + many, x, x.winds(0, 3, 0, i, 0), 7, 0);
                dueWithFault("kinds by no cells from " + i + " of " + many, x, x.kinds(0, 3, 0, i, 0), 7, 0);
                dueWithFault("speeds by no cells from " + i + " of " + many, x, x.speeds(0, 3, 0, i, 0), 14, 0);
                dueWithFault("odds by no cells from " + i + " of " + many, x, x.odds(3, 0, i, 0, 1), 1, 0);
                dueWithFault("copy of no cells from " + i + " of " + many, x, x.copy(3, i, 2, 0, 0), 0, 0);
                dueWithFault("copy of no cells to " + i + " of " + many, x, x.copy(3, 0, 2, i, 0), 0, 0);
            }
            for (int i : beyond(0, many)) {
                dueWithFault("lake of no cells from " + i + " of " + many, x, x.lake(3, 0, i, 0), INDEX, 3);
                dueWithFault("plan of no cells from " + i + " of " + many, x, x.plan(3, 0, i, 0, 10), INDEX, 3);
                dueWithFault("winds by no cells from " + i + " of " + many, x, x.winds(0, 3, 0, i, 0), INDEX, 3);
                dueWithFault("kinds by no cells from " + i + " of " + many, x, x.kinds(0, 3, 0, i, 0), INDEX, 3);
                dueWithFault("speeds by no cells from " + i + " of " + many, x, x.speeds(0, 3, 0, i, 0), INDEX, 3);
                dueWithFault("odds by no cells from " + i + " of " + many, x, x.odds(3, 0, i, 0, 1), LakeWind.LOST, 3);
                dueWithFault("copy of no cells from " + i + " of " + many, x, x.copy(3, i, 2, 0, 0), INDEX, 3);
                dueWithFault("copy of no cells to " + i + " of " + many, x, x.copy(3, 0, 2, i, 0), INDEX, 3);
            }
        }
    }

    private static void lengthBelowNone() {
        LakeWind x = new LakeWind();
        x.sheet(0, 0, 1);
        for (int n : new int[] {-1, LEAST}) {
            dueWithFault("a row of " + n, x, x.sheet(0, 0, n), SIZE, 4);
            dueWithFault("a text of " + n, x, x.lake(0, 0, 0, n), SIZE, 4);
        }
        dueWithFault("a row of 0", x, x.sheet(0, 0, 0), 1, 0);
        dueWithFault("a text of 0", x, x.lake(0, 0, 0, 0), -100, 0);
    }

    private static void firstFaultInTheOrderTold() {
        LakeWind x = at(ONE);
        x.sheet(1, 2, 3);
        dueWithFault("lake: cast, size, index", x, x.lake(0, 1, -1, -1), CAST, 2);
        dueWithFault("lake: null, size, index", x, x.lake(3, 1, -1, -1), NULL, 1);
        dueWithFault("lake: size, index", x, x.lake(0, 0, -1, -1), SIZE, 4);
        dueWithFault("plan: cast, index", x, x.plan(1, 0, 4, 1, 0), CAST, 2);
        dueWithFault("plan: null, index", x, x.plan(3, 0, 4, 1, 0), NULL, 1);
        dueWithFault("cell: cast, index", x, x.cell(1, 3, 0), LakeWind.LOST, 2);
        dueWithFault("cell: null, index", x, x.cell(3, 3, 0), LakeWind.LOST, 1);
        dueWithFault("put: null, index", x, x.put(3, -1, 0), NULL, 1);
        dueWithFault("copy: null there, though it can't be cast, index", x, x.copy(1, 9, 3, 9, 9), NULL, 1);
        dueWithFault("copy: cast, index", x, x.copy(1, 9, 0, 99, 9), CAST, 2);
    }

    private static void setsAreBits() {
        LakeWind x = at("w20;<<..,b01,b02,b03");
        due("boats 1 and 2 over: bits 1 and 2", planned(x, 0, 7), 6);
        due("boat 0 alone goes by bit 0", planned(x, 10, 1), 1);
        due("boat 2 alone goes by bit 2", planned(x, 0, 4), 4);
        due("soonest of boat 0", x.soonest(1), 2);
        due("soonest of boats 1 and 2", x.soonest(6), 1);
        due("hours 0 and 1 as a set", at("w20;..,b01").hats(1, 2), 3);
        due("hour 1 as a set", at("w20;>.,b01").hats(1, 2), 2);
        x.reading(0, 0, 1);
        order(x, 1);
        due("winds 1 and 2: bits 1 and 2", x.winds(0, 1, 2, 0, 1), 6);
        due("kinds 0 and 2: bits 0 and 2", x.kinds(0, 1, 2, 0, 1), 5);
        due("speed 1: bit 1", x.speeds(0, 1, 2, 0, 1), 2);
    }

    private static void sharesInLeastTerms() {
        share("w4000;.,b01,b01", 1, 1);
        share("w4000;.,b01,b01", 1, 2, 3);
        share("w4000;..,b01,b01", 1, 2, 3, 1);
        share("w4000;..........,b01,b01", 1, 1, 1, 2, 1, 2, 1, 2, 1, 2, 1, 2);
        share("w20;...,b01,b01", 3, 8, 3, 0, 3);
    }
}
