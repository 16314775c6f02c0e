/** Sheets; promises 16 to 20. */
final class SheetChapter extends Chapter {
    static void read() {
        terms();
        says("SHEETS 0 .. 3 have nothing (at first), or a row of 0 .. 60 numbers (0 at first) of a LANE: 0 bytes, 1 shorts, 2 ints;",
            SheetChapter::rowsOfLanes);
        says("what comes to a cell of it is cut to its LANE.", SheetChapter::cutToLane);
        promise(16);
        says("A SHEET gets a new row: 1.", SheetChapter::newRow);
        says("UNKNOWN; OUTSIDE: lane, n above 60; SIZE.", SheetChapter::rowRefused);
        promise(17);
        says("A SHEET has nothing: 1; 0: it had nothing.", SheetChapter::lost);
        says("UNKNOWN.", SheetChapter::lostRefused);
        promise(18);
        says("Cell i of a SHEET becomes v: 1.", SheetChapter::cellBecomes);
        says("UNKNOWN; NULL; INDEX.", SheetChapter::putRefused);
        promise(19);
        says("Cell i of what a SHEET has, taken as a row of a LANE.", SheetChapter::cellTaken);
        says("LOST: UNKNOWN, OUTSIDE: lane;", SheetChapter::cellRefused);
        says("FAULTS CAST (nothing is no CAST), NULL, INDEX.", SheetChapter::cellFaults);
        promise(20);
        says("n cells of a SHEET from i on go to another one (perhaps the same) from j on, as they were: n.", SheetChapter::copied);
        says("UNKNOWN;", SheetChapter::copyRefused);
        says("FAULTS NULL (the first, the other), CAST (unlike LANES), INDEX: i, j, n below 0 or beyond.", SheetChapter::copyFaults);
    }

    private static void rowsOfLanes() {
        for (int k = 0; k <= 3; k++) {
            for (int lane = 0; lane <= 2; lane++) {
                LakeWind x = new LakeWind();
                dueWithFault("nothing at first", x, x.cell(k, 0, lane), LakeWind.LOST, 1);
                due("a row of none", x.sheet(k, lane, 0), 1);
                dueWithFault("has no cell", x, x.cell(k, 0, lane), LakeWind.LOST, 3);
                due("a row of one", x.sheet(k, lane, 1), 1);
                due("has a cell", x.cell(k, 0, lane), 0);
                dueWithFault("and no other", x, x.cell(k, 1, lane), LakeWind.LOST, 3);
                due("a row of 60", x.sheet(k, lane, 60), 1);
                for (int i = 0; i < 60; i++) {
                    due("0 at first", x.cell(k, i, lane), 0);
                }
                dueWithFault("and no other", x, x.cell(k, 60, lane), LakeWind.LOST, 3);
            }
        }
    }

    private static void cut(int lane, int v, int want) {
        LakeWind x = new LakeWind();
        x.sheet(0, lane, 2);
        x.put(0, 1, v);
        due(v + " in lane " + lane, x.cell(0, 1, lane), want);
        due("beside " + v + " in lane " + lane, x.cell(0, 0, lane), 0);
    }

    private static void cutToLane() {
        int[][] bytes = {{0, 0}, {1, 1}, {127, 127}, {128, -128}, {255, -1}, {256, 0}, {-1, -1}, {-128, -128}, {-129, 127},
            {MOST, -1}, {LEAST, 0}, {32768, 0}, {65535, -1}, {1 << 30, 0}};
        int[][] shorts = {{0, 0}, {127, 127}, {128, 128}, {256, 256}, {32767, 32767}, {32768, -32768}, {65535, -1}, {65536, 0},
            {-32768, -32768}, {-32769, 32767}, {MOST, -1}, {LEAST, 0}};
        int[] ints = {0, 128, -129, 32768, -32769, 65536, MOST, LEAST};
        for (int[] pair : bytes) {
            cut(0, pair[0], pair[1]);
        }
        for (int[] pair : shorts) {
            cut(1, pair[0], pair[1]);
        }
        for (int v : ints) {
            cut(2, v, v);
        }
    }

    private static void newRow() {
        LakeWind x = new LakeWind();
        for (int i = 0; i < 3; i++) {
            due("a row", x.sheet(1, 2, 60), 1);
            x.put(1, 0, 7);
            x.put(1, 59, 7);
        }
        due("a row of the same", x.sheet(1, 2, 60), 1);
        due("its first cell is new", x.cell(1, 0, 2), 0);
        due("its last cell is new", x.cell(1, 59, 2), 0);
        x.put(1, 59, 7);
        due("a shorter one", x.sheet(1, 2, 5), 1);
        due("a longer one again", x.sheet(1, 2, 60), 1);
        due("its last cell is new", x.cell(1, 59, 2), 0);
        due("one of another lane", x.sheet(1, 0, 2), 1);
        dueWithFault("is of it", x, x.cell(1, 0, 2), LakeWind.LOST, 2);
        due("is of it", x.cell(1, 0, 0), 0);
        dueWithFault("the others have nothing", x, x.cell(0, 0, 2), LakeWind.LOST, 1);
        dueWithFault("a row leaves no fault", x, x.sheet(1, 0, 2), 1, 0);
    }

    private static void rowRefused() {
        LakeWind x = new LakeWind();
        fill(x, 0, 1, 5, 6, 7);
        for (int k : beyond(0, 3)) {
            dueWithFault("sheet " + k, x, x.sheet(k, 0, 1), LakeWind.UNKNOWN, 0);
            dueWithFault("sheet " + k + " ahead of lane, n", x, x.sheet(k, 3, 61), LakeWind.UNKNOWN, 0);
            dueWithFault("sheet " + k + " ahead of size", x, x.sheet(k, 0, -1), LakeWind.UNKNOWN, 0);
        }
        for (int lane : beyond(0, 2)) {
            dueWithFault("lane " + lane, x, x.sheet(0, lane, 1), LakeWind.OUTSIDE, 0);
            dueWithFault("lane " + lane + " ahead of size", x, x.sheet(0, lane, -1), LakeWind.OUTSIDE, 0);
        }
        for (int n : new int[] {61, 62, MOST}) {
            dueWithFault("n " + n, x, x.sheet(0, 0, n), LakeWind.OUTSIDE, 0);
        }
        for (int n : new int[] {-1, LEAST}) {
            dueWithFault("n " + n, x, x.sheet(0, 0, n), SIZE, 4);
        }
        due("the row is as it was", x.cell(0, 2, 1), 7);
        dueWithFault("as long as it was", x, x.cell(0, 3, 1), LakeWind.LOST, 3);
    }

    private static void lost() {
        LakeWind x = new LakeWind();
        for (int k = 0; k <= 3; k++) {
            due("nothing to lose", x.lose(k), 0);
            x.sheet(k, 0, k);
            due("lost", x.lose(k), 1);
            due("nothing more to lose", x.lose(k), 0);
            dueWithFault("it has nothing", x, x.cell(k, 0, 0), LakeWind.LOST, 1);
        }
        x.sheet(0, 2, 3);
        x.sheet(1, 2, 3);
        x.lose(0);
        due("another one has its row", x.put(1, 2, 4), 1);
        fill(x, 0, 2, 1, 2, 3);
        x.lose(0);
        x.sheet(0, 2, 3);
        due("a new row is new", x.cell(0, 1, 2), 0);
        x.put(2, 0, 0);
        x.lose(0);
        due("fault() stays, as it names none", x.fault(), 1);
    }

    private static void lostRefused() {
        for (int k : beyond(0, 3)) {
            due("lose(" + k + ")", new LakeWind().lose(k), LakeWind.UNKNOWN);
        }
    }

    private static void cellBecomes() {
        for (int lane = 0; lane <= 2; lane++) {
            LakeWind x = new LakeWind();
            x.sheet(3, lane, 60);
            due("the first", x.put(3, 0, 11), 1);
            due("the last", x.put(3, 59, 12), 1);
            due("again", x.put(3, 59, -13), 1);
            due("the first is", x.cell(3, 0, lane), 11);
            due("the last is", x.cell(3, 59, lane), -13);
            due("one between is", x.cell(3, 1, lane), 0);
            dueWithFault("no fault", x, x.put(3, 59, LEAST), 1, 0);
        }
    }

    private static void putRefused() {
        LakeWind x = new LakeWind();
        x.sheet(0, 0, 60);
        x.sheet(1, 0, 0);
        for (int k : beyond(0, 3)) {
            dueWithFault("sheet " + k, x, x.put(k, 0, 1), LakeWind.UNKNOWN, 0);
            dueWithFault("sheet " + k + " ahead of index", x, x.put(k, -1, 1), LakeWind.UNKNOWN, 0);
        }
        dueWithFault("nothing", x, x.put(2, 0, 1), NULL, 1);
        for (int i : beyond(0, 59)) {
            dueWithFault("cell " + i, x, x.put(0, i, 1), INDEX, 3);
            dueWithFault("cell " + i + " of nothing", x, x.put(2, i, 1), NULL, 1);
        }
        dueWithFault("cell 0 of none", x, x.put(1, 0, 1), INDEX, 3);
        x.sheet(0, 0, 2);
        dueWithFault("a cell that the longer row had", x, x.put(0, 2, 1), INDEX, 3);
    }

    private static void cellTaken() {
        for (int lane = 0; lane <= 2; lane++) {
            LakeWind x = new LakeWind();
            fill(x, 2, lane, 1, -2, 3);
            dueWithFault("the first", x, x.cell(2, 0, lane), 1, 0);
            dueWithFault("below 0", x, x.cell(2, 1, lane), -2, 0);
            dueWithFault("the last", x, x.cell(2, 2, lane), 3, 0);
        }
    }

    private static void cellRefused() {
        LakeWind x = new LakeWind();
        x.sheet(0, 0, 1);
        for (int k : beyond(0, 3)) {
            dueWithFault("sheet " + k, x, x.cell(k, 0, 0), LakeWind.LOST, 0);
        }
        for (int lane : beyond(0, 2)) {
            dueWithFault("lane " + lane, x, x.cell(0, 0, lane), LakeWind.LOST, 0);
            dueWithFault("lane " + lane + " ahead of nothing", x, x.cell(1, 0, lane), LakeWind.LOST, 0);
            dueWithFault("lane " + lane + " ahead of index", x, x.cell(0, 1, lane), LakeWind.LOST, 0);
        }
    }

    private static void cellFaults() {
        LakeWind x = new LakeWind();
        for (int lane = 0; lane <= 2; lane++) {
            x.sheet(lane, lane, 2);
            for (int as = 0; as <= 2; as++) {
                int inside = as == lane ? 0 : 2;
                dueWithFault("lane " + lane + " as " + as, x, x.cell(lane, 1, as), as == lane ? 0 : LakeWind.LOST, inside);
                for (int i : beyond(0, 1)) {
                    int fault = as == lane ? 3 : 2;
                    dueWithFault("lane " + lane + " as " + as + ", cell " + i, x, x.cell(lane, i, as), LakeWind.LOST, fault);
                }
            }
            dueWithFault("nothing as " + lane, x, x.cell(3, 0, lane), LakeWind.LOST, 1);
            dueWithFault("nothing as " + lane + ", cell -1", x, x.cell(3, -1, lane), LakeWind.LOST, 1);
        }
    }

    private static String row(LakeWind x, int k, int lane, int n) {
        StringBuilder cells = new StringBuilder();
        for (int i = 0; i < n; i++) {
            cells.append(x.cell(k, i, lane)).append(' ');
        }
        return cells.toString().strip();
    }

    private static void copied() {
        for (int lane = 0; lane <= 2; lane++) {
            LakeWind x = new LakeWind();
            fill(x, 0, lane, 1, 2, 3, 4, 5, 6);
            x.sheet(1, lane, 4);
            dueWithFault("two to another", x, x.copy(0, 4, 1, 2, 2), 2, 0);
            due("the other", row(x, 1, lane, 4), "0 0 5 6");
            dueWithFault("all of it", x, x.copy(1, 0, 0, 0, 4), 4, 0);
            due("the first", row(x, 0, lane, 6), "0 0 5 6 5 6");
            fill(x, 0, lane, 1, 2, 3, 4, 5, 6);
            due("up in the same", x.copy(0, 0, 0, 2, 4), 4);
            due("as they were", row(x, 0, lane, 6), "1 2 1 2 3 4");
            fill(x, 0, lane, 1, 2, 3, 4, 5, 6);
            due("down in the same", x.copy(0, 2, 0, 0, 4), 4);
            due("as they were", row(x, 0, lane, 6), "3 4 5 6 5 6");
            due("to their own places", x.copy(0, 0, 0, 0, 6), 6);
            due("as they were", row(x, 0, lane, 6), "3 4 5 6 5 6");
            due("none", x.copy(0, 6, 1, 4, 0), 0);
            due("none in the same", x.copy(0, 0, 0, 6, 0), 0);
            due("as they were", row(x, 0, lane, 6), "3 4 5 6 5 6");
        }
        LakeWind x = new LakeWind();
        x.sheet(2, 1, 60);
        x.sheet(3, 1, 60);
        due("60", x.copy(2, 0, 3, 0, 60), 60);
    }

    private static void copyRefused() {
        LakeWind x = new LakeWind();
        x.sheet(0, 0, 1);
        for (int k : beyond(0, 3)) {
            dueWithFault("from sheet " + k, x, x.copy(k, 0, 0, 0, 1), LakeWind.UNKNOWN, 0);
            dueWithFault("to sheet " + k, x, x.copy(0, 0, k, 0, 1), LakeWind.UNKNOWN, 0);
            dueWithFault("from sheet " + k + " to nothing", x, x.copy(k, 0, 1, 0, 1), LakeWind.UNKNOWN, 0);
            dueWithFault("from nothing to sheet " + k, x, x.copy(1, -1, k, -1, -1), LakeWind.UNKNOWN, 0);
            dueWithFault("from sheet to sheet " + k, x, x.copy(k, -1, k, -1, -1), LakeWind.UNKNOWN, 0);
        }
    }

    private static void copyFaults() {
        LakeWind x = new LakeWind();
        x.sheet(0, 1, 6);
        x.sheet(1, 1, 4);
        x.sheet(2, 2, 4);
        dueWithFault("the first has nothing", x, x.copy(3, 0, 0, 0, 1), NULL, 1);
        dueWithFault("the other has nothing", x, x.copy(0, 0, 3, 0, 1), NULL, 1);
        dueWithFault("both have nothing", x, x.copy(3, 0, 3, 0, 0), NULL, 1);
        dueWithFault("nothing ahead of index", x, x.copy(0, -1, 3, -1, -1), NULL, 1);
        dueWithFault("unlike lanes", x, x.copy(0, 0, 2, 0, 1), CAST, 2);
        dueWithFault("unlike lanes, no cells", x, x.copy(2, 0, 0, 0, 0), CAST, 2);
        dueWithFault("unlike lanes ahead of index", x, x.copy(0, -1, 2, 9, -1), CAST, 2);
        for (int i : beyond(0, 6)) {
            dueWithFault("i " + i, x, x.copy(0, i, 1, 0, 1), INDEX, 3);
            dueWithFault("i " + i + ", no cells", x, x.copy(0, i, 1, 0, 0), INDEX, 3);
        }
        for (int j : beyond(0, 4)) {
            dueWithFault("j " + j, x, x.copy(0, 0, 1, j, 1), INDEX, 3);
            dueWithFault("j " + j + ", no cells", x, x.copy(0, 0, 1, j, 0), INDEX, 3);
        }
        for (int n : new int[] {LEAST, -1, 5, MOST}) {
            dueWithFault("n " + n, x, x.copy(0, 0, 1, 0, n), INDEX, 3);
        }
        dueWithFault("from the end on", x, x.copy(0, 6, 1, 0, 1), INDEX, 3);
        dueWithFault("to the end on", x, x.copy(0, 0, 1, 4, 1), INDEX, 3);
        dueWithFault("beyond the first by one", x, x.copy(0, 3, 0, 0, 4), INDEX, 3);
        dueWithFault("beyond the other by one", x, x.copy(0, 0, 1, 1, 4), INDEX, 3);
        dueWithFault("i and n wrap", x, x.copy(0, 2, 1, 0, MOST), INDEX, 3);
        dueWithFault("just to the end of both", x, x.copy(0, 2, 1, 0, 4), 4, 0);
    }
}
