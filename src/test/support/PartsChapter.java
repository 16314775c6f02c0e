/** Telling and hailing, casts, what is left of calls; promises 21 to 26. */
final class PartsChapter extends Chapter {
    private static final String KINDS = "w20;>,b03,o02,t01";

    static void read() {
        terms();
        says("TELLING of BOATS by bodies that leave their number in TRACE (an int that wraps, 0 at first, becomes 31 times it and the number) "
            + "as they begin: BOAT (1): how FAST it is.", PartsChapter::boatTells);
        says("OARED (2): what BOAT's gives, and 100.", PartsChapter::oaredTells);
        says("TOWED (3): what OARED's gives, and what BOAT's gives (OARED's left out).", PartsChapter::towedTells);
        says("HAILED by a lent body (4): its number; TOWED ones have their own (5): 70.", PartsChapter::hailed);
        promise(21);
        says("TELLING of a BOAT.", PartsChapter::tellOfEach);
        says("UNKNOWN.", PartsChapter::tellOfNone);
        promise(22);
        says("How it is HAILED.", PartsChapter::hailOfEach);
        says("UNKNOWN.", PartsChapter::hailOfNone);
        promise(23);
        says("A BOAT, taken as one of a kind: 1.", PartsChapter::takenAs);
        says("UNKNOWN; OUTSIDE;", PartsChapter::takenAsRefused);
        says("CAST: it is none (each is a BOAT, too; a TOWED one is OARED).", PartsChapter::takenAsNone);
        promise(24);
        says("TRACE.", PartsChapter::traceIsLeft);
        promise(25);
        says("The FAULT of the latest call that names one:", PartsChapter::latestFault);
        says("0: it came to none, or was refused (0 ahead of any).", PartsChapter::noFault);
        promise(26);
        says("How many: 0 BOATS, 1 WIDE, 2 HOURS, 3 READINGS (0 all without a LAKE).", PartsChapter::howMany);
        says("OUTSIDE.", PartsChapter::howManyOfNothing);
    }

    /** TRACE as the numbers of bodies leave it, in longs that are cut to an int at last. */
    private static int traceOf(int... bodies) {
        long trace = 0;
        for (int body : bodies) {
            trace = (trace * 31 + body) % (1L << 32);
        }
        return (int) trace;
    }

    private static void boatTells() {
        for (int fast = 1; fast <= 3; fast++) {
            LakeWind x = at("w20;>,b0" + fast);
            due("0 at first", x.trace(), 0);
            due("how fast", x.tell(0), fast);
            due("one body", x.trace(), 1);
            due("how fast again", x.tell(0), fast);
            due("31 times it and the number", x.trace(), 32);
        }
        LakeWind x = at("w20;>,b01");
        int[] bodies = new int[400];
        for (int k = 0; k < 400; k++) {
            bodies[k] = 1;
            x.tell(0);
        }
        due("it has wrapped many times", x.trace(), traceOf(bodies));
        LakeWind y = at("w20;>,t11");
        for (int k = 0; k < 6; k++) {
            y.hail(0);
        }
        due("the last ahead of wrapping", y.trace(), 147917280);
        y.hail(0);
        due("beyond the greatest int", y.trace(), traceOf(5, 5, 5, 5, 5, 5, 5));
    }

    private static void oaredTells() {
        for (int fast = 1; fast <= 3; fast++) {
            LakeWind x = at("w20;>,o0" + fast);
            due("and 100", x.tell(0), fast + 100);
            due("its own body begins first", x.trace(), 2 * 31 + 1);
        }
    }

    private static void towedTells() {
        for (int fast = 1; fast <= 3; fast++) {
            LakeWind x = at("w20;>,t0" + fast);
            due("and 100, and how fast", x.tell(0), 2 * fast + 100);
            due("bodies 3, 2, 1, 1", x.trace(), ((3 * 31 + 2) * 31 + 1) * 31 + 1);
        }
    }

    private static void hailed() {
        LakeWind x = at(KINDS);
        due("boat 0", x.hail(0), 0);
        due("body 4", x.trace(), 4);
        due("boat 1, an oared one", x.hail(1), 1);
        due("body 4 again", x.trace(), 4 * 31 + 4);
        due("boat 2, a towed one", x.hail(2), 70);
        due("body 5", x.trace(), (4 * 31 + 4) * 31 + 5);
        LakeWind y = at("w20;>,t01,b01,o01");
        due("a towed one by its own, whatever its number", y.hail(0), 70);
        due("its number is that of its place", y.hail(1), 1);
        due("its number is that of its place", y.hail(2), 2);
    }

    private static void tellOfEach() {
        LakeWind x = at(KINDS);
        due("boat 0", x.tell(0), 3);
        due("boat 1", x.tell(1), 102);
        due("boat 2", x.tell(2), 102);
        due("all their bodies", x.trace(), traceOf(1, 2, 1, 3, 2, 1, 1));
    }

    private static void tellOfNone() {
        String[] texts = {"w20;>,b01", "w20;>,b01,o01", KINDS};
        for (int boats = 1; boats <= 3; boats++) {
            LakeWind x = at(texts[boats - 1]);
            for (int b : beyond(0, boats - 1)) {
                due("boat " + b + " of " + boats, x.tell(b), LakeWind.UNKNOWN);
            }
            due("no body began", x.trace(), 0);
        }
        due("no lake", new LakeWind().tell(0), LakeWind.UNKNOWN);
    }

    private static void hailOfEach() {
        LakeWind x = at("w20;>,b01,b01,b01");
        for (int b = 0; b < 3; b++) {
            due("boat " + b, x.hail(b), b);
        }
        due("all their bodies", x.trace(), traceOf(4, 4, 4));
        order(x, 0);
        x.kinds(0, 1, 2, 0, 1);
        due("kinds leave it a boat", x.hail(0), 0);
    }

    private static void hailOfNone() {
        String[] texts = {"w20;>,b01", "w20;>,b01,o01", KINDS};
        for (int boats = 1; boats <= 3; boats++) {
            LakeWind x = at(texts[boats - 1]);
            for (int b : beyond(0, boats - 1)) {
                due("boat " + b + " of " + boats, x.hail(b), LakeWind.UNKNOWN);
            }
            due("no body began", x.trace(), 0);
        }
        due("no lake", new LakeWind().hail(0), LakeWind.UNKNOWN);
    }

    private static void takenAs() {
        LakeWind x = at(KINDS);
        for (int b = 0; b < 3; b++) {
            for (int kind = 0; kind <= b; kind++) {
                dueWithFault("as(" + b + ", " + kind + ")", x, x.as(b, kind), 1, 0);
            }
            due("its kind stays", x.ofBoat(b, 0), b);
        }
    }

    private static void takenAsRefused() {
        LakeWind x = at(KINDS);
        for (int b : beyond(0, 2)) {
            dueWithFault("boat " + b, x, x.as(b, 0), LakeWind.UNKNOWN, 0);
            dueWithFault("boat " + b + " ahead of the kind", x, x.as(b, 3), LakeWind.UNKNOWN, 0);
        }
        for (int kind : beyond(0, 2)) {
            for (int b = 0; b < 3; b++) {
                x.as(0, 2);
                dueWithFault("kind " + kind + " of " + b, x, x.as(b, kind), LakeWind.OUTSIDE, 0);
            }
        }
        LakeWind dry = Refusals.dry();
        dueWithFault("no lake", dry, dry.as(0, 0), LakeWind.UNKNOWN, 0);
    }

    private static void takenAsNone() {
        LakeWind x = at(KINDS);
        dueWithFault("a boat as an oared one", x, x.as(0, 1), CAST, 2);
        dueWithFault("a boat as a towed one", x, x.as(0, 2), CAST, 2);
        dueWithFault("an oared one as a towed one", x, x.as(1, 2), CAST, 2);
        dueWithFault("an oared one as a boat", x, x.as(1, 0), 1, 0);
        dueWithFault("a towed one as a boat", x, x.as(2, 0), 1, 0);
        dueWithFault("a towed one as an oared one", x, x.as(2, 1), 1, 0);
    }

    private static void traceIsLeft() {
        LakeWind x = new LakeWind();
        due("0 at first", x.trace(), 0);
        lakeBy(x, KINDS);
        due("a lake leaves none", x.trace(), 0);
        x.tell(2);
        x.hail(1);
        int trace = traceOf(3, 2, 1, 1, 4);
        due("bodies", x.trace(), trace);
        due("it is not changed by being told", x.trace(), trace);
        order(x, 1);
        x.reading(0, 0, 0);
        for (String call : new String[] {"ofBoat(2, 3)", "plan(1, 2, 0, 1, 0)", "soonest(7)", "hats(7, 1)", "rid(0)", "kinds(2, 1, 2, 0, 1)",
            "speeds(2, 1, 2, 0, 1)", "winds(0, 1, 2, 0, 1)", "odds(1, 2, 0, 1, 0)", "as(2, 1)", "as(0, 2)", "fault()", "many(0)", "lose(1)"}) {
            new Call(call).on(x);
            due("behind " + call, x.trace(), trace);
        }
        lakeBy(x, ONE);
        due("behind another lake", x.trace(), trace);
    }

    private static void latestFault() {
        LakeWind x = Refusals.stocked();
        String[] calls = {"put(3, 0, 0)", "cell(1, 0, 0)", "copy(1, 9, 1, 0, 0)", "sheet(0, 0, -1)", "lake(0, 1, 0, 1)",
            "plan(3, 0, 0, 1, 0)", "winds(0, 1, 2, 8, 0)", "kinds(0, 1, 0, 0, 1)", "speeds(0, 3, 0, 0, 1)", "odds(1, 2, 8, 0, 0)", "as(0, 1)"};
        int[] faults = {1, 2, 3, 4, 2, 1, 3, 2, 1, 3, 2};
        for (int k = 0; k < calls.length; k++) {
            new Call(calls[k]).on(x);
            due("behind " + calls[k], x.fault(), faults[k]);
            due("it is not changed by being told", x.fault(), faults[k]);
        }
        for (String call : new String[] {"ofBoat(0, 0)", "ofBoat(9, 0)", "wind(0, 1)", "wind(9, 1)", "isle(2, true)", "isle(9, true)",
            "soonest(1)", "soonest(9)", "hats(1, 1)", "hats(9, 1)", "rid(0)", "rid(9)", "reading(0, 0, 1)", "reading(9, 0, 1)", "back(0)",
            "back(9)", "lose(2)", "lose(9)", "tell(0)", "tell(9)", "hail(0)", "hail(9)", "trace()", "many(0)", "many(9)"}) {
            new Call(call).on(x);
            due("behind " + call + ", which names none", x.fault(), 2);
        }
    }

    private static void noFault() {
        due("ahead of any", new LakeWind().fault(), 0);
        String[] good = {"lake(0, 0, 0, 24)", "lake(0, 0, 0, 23)", "plan(1, 2, 0, 6, 0)", "winds(0, 1, 2, 0, 6)", "kinds(0, 1, 2, 0, 6)",
            "speeds(0, 1, 2, 0, 6)", "odds(1, 2, 0, 6, 0)", "sheet(2, 0, 3)", "put(1, 0, 1)", "cell(1, 0, 2)", "copy(1, 0, 1, 1, 2)", "as(0, 0)"};
        String[] refused = {"lake(4, 0, 0, 9)", "lake(0, 3, 0, 9)", "plan(4, 2, 0, 6, 0)", "plan(1, 2, 0, 7, 0)", "winds(6, 1, 2, 0, 6)",
            "kinds(3, 1, 2, 0, 6)", "speeds(3, 1, 2, 0, 6)", "odds(1, 2, 0, 6, 2)", "sheet(0, 0, 61)", "put(4, 0, 1)", "cell(4, 0, 2)",
            "copy(4, 0, 1, 1, 2)", "as(3, 0)", "as(0, 3)"};
        for (String[] calls : new String[][] {good, refused}) {
            for (String call : calls) {
                LakeWind x = Refusals.stocked();
                due("a fault ahead of " + call, x.fault(), 1);
                new Call(call).on(x);
                due("behind " + call, x.fault(), 0);
            }
        }
    }

    private static void howMany() {
        LakeWind x = new LakeWind();
        for (int what = 0; what <= 3; what++) {
            due("without a lake, " + what, x.many(what), 0);
        }
        lakeBy(x, "w300;>><.<>..,b01,b11");
        due("boats", x.many(0), 2);
        due("WIDE", x.many(1), 3);
        due("hours", x.many(2), 8);
        due("readings", x.many(3), 0);
        x.reading(0, 0, 0);
        due("readings", x.many(3), 1);
        lakeBy(x, "w4000;>>>>>>>>>>,b01,b11,b01");
        due("boats of another", x.many(0), 3);
        due("WIDE of another", x.many(1), 4);
        due("hours of another", x.many(2), 10);
        due("readings of another", x.many(3), 0);
    }

    private static void howManyOfNothing() {
        for (int what : beyond(0, 3)) {
            due("without a lake, " + what, new LakeWind().many(what), LakeWind.OUTSIDE);
            due("with a lake, " + what, at(ONE).many(what), LakeWind.OUTSIDE);
        }
    }
}
