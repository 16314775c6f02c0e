/** What the tests by hand have in common: how an answer is looked at, how texts and plans come to sheets. */
class Hand {
    static final int LEAST = Integer.MIN_VALUE, MOST = Integer.MAX_VALUE;
    static final int NULL = -11, CAST = -12, INDEX = -13, SIZE = -14;
    static final String ONE = "w20;>,b01";
    static final String THREE = "w4010;>><.<>,b01,o12,t02";
    static int wrong = 0;
    static int looks = 0;
    static String promise = "";

    static void due(String call, long got, long want) {
        looks++;
        if (got != want) {
            wrong++;
            System.out.println(promise + ": " + call + " answered " + got + ", due is " + want);
        }
    }

    static void due(String call, String got, String want) {
        looks++;
        if (!got.equals(want)) {
            wrong++;
            System.out.println(promise + ": " + call + "\n  answered " + got + "\n  due is   " + want);
        }
    }

    /** What a call that may come to a fault answered, and what fault() tells then. */
    static void dueWithFault(String call, LakeWind x, long got, long want, int fault) {
        due(call, got, want);
        due("fault() behind " + call, x.fault(), fault);
    }

    static void end(String allIsWell) {
        System.out.println(wrong == 0 ? allIsWell : wrong + " answers are not as due");
        if (wrong != 0) {
            System.exit(1);
        }
    }

    /** The numbers next to least .. most, and those as far off as can be. */
    static int[] beyond(int least, int most) {
        return new int[] {LEAST, least - 1, most + 1, MOST};
    }

    static int write(LakeWind x, int k, int lane, String text) {
        x.sheet(k, lane, text.length());
        for (int c = 0; c < text.length(); c++) {
            x.put(k, c, text.charAt(c));
        }
        return text.length();
    }

    static int lakeBy(LakeWind x, String text) {
        return x.lake(0, 0, 0, write(x, 0, 0, text));
    }

    static LakeWind at(String text) {
        LakeWind x = new LakeWind();
        int got = lakeBy(x, text);
        if (got < 1) {
            due("lake by " + text, got, 1);
        }
        return x;
    }

    static int fill(LakeWind x, int k, int lane, int... cells) {
        x.sheet(k, lane, cells.length);
        for (int c = 0; c < cells.length; c++) {
            x.put(k, c, cells[c]);
        }
        return cells.length;
    }

    /** Orders go to sheet 1, lane 2. */
    static int order(LakeWind x, int... sets) {
        return fill(x, 1, 2, sets);
    }

    static int planned(LakeWind x, int what, int... sets) {
        return x.plan(1, 2, 0, order(x, sets), what);
    }

    /** The odds of a plan, as both numbers of a share. */
    static void share(String text, int upper, int lower, int... sets) {
        LakeWind x = at(text);
        int n = order(x, sets);
        due("upper number by " + text, x.odds(1, 2, 0, n, 0), upper);
        due("lower number by " + text, x.odds(1, 2, 0, n, 1), lower);
    }
}
