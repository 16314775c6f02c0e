import java.util.ArrayList;
import java.util.List;
import java.util.Random;

/**
 * Runs of calls, chosen by fixed seeds, on LakeWind and on a twin that does what the document says
 * by trying everything: real rows with real casts, every plan, every other wind, every chance.
 */
public final class PlainTwinTest {
    private static int wrong = 0;

    public static void main(String[] args) {
        long seeds = args.length > 0 ? Long.parseLong(args[0]) : 400;
        for (long seed = 1; seed <= seeds && wrong < 20; seed++) {
            new Run(seed).play();
        }
        for (long seed = 1; seed <= seeds / 2 && wrong < 20; seed++) {
            new Run(-seed).searchSlowLake();
        }
        System.out.println(wrong == 0 ? "twins agree" : wrong + " answers differ from the twin's");
        if (wrong != 0) {
            System.exit(1);
        }
    }

    /** One run of at most 512 calls. */
    private static final class Run {
        private final long seed;
        private final Random random;
        private final LakeWind real = new LakeWind();
        private final Twin twin = new Twin();
        private final List<String> log = new ArrayList<>();
        private int calls = 0;
        private boolean hasFailed = false;

        Run(long seed) {
            this.seed = seed;
            this.random = new Random(seed);
        }

        void play() {
            while (calls < 430 && !hasFailed) {
                int pick = random.nextInt(40);
                if (pick == 0 || calls == 0 && random.nextInt(4) > 0) {
                    writeLake();
                } else if (pick < 4) {
                    writePlan();
                } else {
                    callOne();
                }
            }
        }

        /** Slow boats from the same shore, so that time is short and hats are called for. */
        void searchSlowLake() {
            StringBuilder text = new StringBuilder("w");
            int wide = 2 + random.nextInt(3);
            text.append(wide);
            for (int c = 1; c < wide; c++) {
                text.append(random.nextInt(2));
            }
            text.append(';');
            int hours = 3 + random.nextInt(8);
            String signs = random.nextBoolean() ? ">>.<" : ".>..<";
            for (int h = 0; h < hours; h++) {
                text.append(signs.charAt(random.nextInt(signs.length())));
            }
            int boats = 1 + random.nextInt(3);
            for (int b = 0; b < boats; b++) {
                text.append(',').append("bbbot".charAt(random.nextInt(5)));
                text.append(random.nextInt(5) == 0 ? 1 : 0).append(random.nextInt(4) == 0 ? 2 : 1);
            }
            sheet(0, 0, text.length());
            for (int c = 0; c < text.length(); c++) {
                put(0, c, text.charAt(c));
            }
            lake(0, 0, 0, text.length());
            for (int round = 0; round < 2; round++) {
                for (int set = 0; set < 1 << boats; set++) {
                    soonest(set);
                }
                for (int b = 0; b < boats; b++) {
                    rid(b);
                }
                for (int n = 0; n <= 10; n++) {
                    hats((1 << boats) - 1, n);
                    hats(random.nextInt(1 << boats), n);
                }
                isle(1 + random.nextInt(wide - 1), random.nextBoolean());
                wind(random.nextInt(hours), random.nextInt(3));
            }
        }

        private void soonest(int set) {
            check("soonest(" + set + ")", real.soonest(set), twin.soonest(set));
        }

        private void hats(int set, int n) {
            check("hats(" + set + ", " + n + ")", real.hats(set, n), twin.hats(set, n));
        }

        private void rid(int b) {
            check("rid(" + b + ")", real.rid(b), twin.rid(b));
        }

        private void isle(int c, boolean is) {
            check("isle(" + c + ", " + is + ")", real.isle(c, is), twin.isle(c, is));
        }

        private void wind(int hour, int v) {
            check("wind(" + hour + ", " + v + ")", real.wind(hour, v), twin.wind(hour, v));
        }

        private void check(String call, long got, long due) {
            calls++;
            log.add(call + " -> " + due);
            if (got != due && !hasFailed) {
                hasFailed = true;
                wrong++;
                System.out.println("seed " + seed + ", call " + calls + ": " + call + " answered " + got + ", due is " + due);
                for (String line : log.subList(Math.max(0, log.size() - 60), log.size())) {
                    System.out.println("    " + line);
                }
            }
        }

        private void sheet(int k, int lane, int n) {
            check("sheet(" + k + ", " + lane + ", " + n + ")", real.sheet(k, lane, n), twin.sheet(k, lane, n));
        }

        private void put(int k, int i, int v) {
            check("put(" + k + ", " + i + ", " + v + ")", real.put(k, i, v), twin.put(k, i, v));
        }

        private void fault() {
            check("fault()", real.fault(), twin.fault());
        }

        private void lake(int k, int lane, int i, int n) {
            check("lake(" + k + ", " + lane + ", " + i + ", " + n + ")", real.lake(k, lane, i, n), twin.lake(k, lane, i, n));
        }

        private void writeLake() {
            int k = random.nextInt(4);
            int lane = random.nextInt(3);
            String text = anyText();
            int before = random.nextInt(3);
            sheet(k, lane, before + text.length());
            for (int c = 0; c < text.length(); c++) {
                put(k, before + c, text.charAt(c));
            }
            lake(k, lane, before, text.length());
            fault();
            for (int what = 0; what < 4; what++) {
                check("many(" + what + ")", real.many(what), twin.many(what));
            }
        }

        private String anyText() {
            StringBuilder text = new StringBuilder("w");
            int wide = 2 + random.nextInt(3);
            text.append(wide);
            for (int c = 1; c < wide; c++) {
                text.append(random.nextInt(2));
            }
            text.append(';');
            int hours = 1 + random.nextInt(random.nextInt(4) == 0 ? 11 : 7);
            for (int h = 0; h < hours; h++) {
                text.append("><><.".charAt(random.nextInt(5)));
            }
            int boats = 1 + random.nextInt(random.nextInt(8) == 0 ? 4 : 3);
            int side = random.nextInt(3);
            for (int b = 0; b < boats; b++) {
                text.append(',').append("bbot".charAt(random.nextInt(4)));
                text.append(side < 2 ? side : random.nextInt(2)).append(1 + random.nextInt(3));
            }
            if (random.nextInt(4) == 0) {
                spoil(text);
            }
            return text.toString();
        }

        private void spoil(StringBuilder text) {
            int at = random.nextInt(text.length());
            switch (random.nextInt(3)) {
                case 0 -> text.setLength(at);
                case 1 -> text.setCharAt(at, "w0123456;><.,botx".charAt(random.nextInt(17)));
                default -> text.insert(at, "w0123456;><.,botx".charAt(random.nextInt(17)));
            }
        }

        private void writePlan() {
            int k = random.nextInt(4);
            int lane = random.nextInt(3);
            int hours = twin.many(2);
            int n = random.nextInt(3) == 0 ? random.nextInt(12) : hours;
            int all = (1 << twin.many(0)) - 1;
            sheet(k, lane, n);
            for (int i = 0; i < n; i++) {
                put(k, i, random.nextInt(40) == 0 ? anyNumber() : random.nextInt(all + 1) | random.nextInt(all + 1));
            }
            for (int what = 0; what < 4; what++) {
                plan(k, lane, 0, n, what);
            }
            for (int b = 0; b < 3; b++) {
                plan(k, lane, 0, n, 10 + b);
            }
            odds(k, lane, 0, n, 0);
            odds(k, lane, 0, n, 1);
            if (random.nextBoolean()) {
                truthfulReadings(k, lane, n);
            }
        }

        /** Readings that are so by the plan as it is, so that sets of winds and kinds are not just empty. */
        private void truthfulReadings(int k, int lane, int n) {
            for (int r = 0; r < 2 && n > 0; r++) {
                int hour = random.nextInt(n);
                int b = random.nextInt(3);
                int c = twin.plan(k, lane, 0, hour + 1, 10 + b);
                check("reading(" + b + ", " + hour + ", " + c + ")", real.reading(b, hour, c), twin.reading(b, hour, c));
            }
            for (int hour = 0; hour < n; hour++) {
                check("winds(" + hour + ", " + k + ", " + lane + ", 0, " + n + ")",
                    real.winds(hour, k, lane, 0, n), twin.winds(hour, k, lane, 0, n));
            }
            for (int b = 0; b < 3; b++) {
                kinds(b, k, lane, 0, n);
                speeds(b, k, lane, 0, n);
            }
        }

        private void plan(int k, int lane, int i, int n, int what) {
            check("plan(" + k + ", " + lane + ", " + i + ", " + n + ", " + what + ")",
                real.plan(k, lane, i, n, what), twin.plan(k, lane, i, n, what));
        }

        private void odds(int k, int lane, int i, int n, int which) {
            check("odds(" + k + ", " + lane + ", " + i + ", " + n + ", " + which + ")",
                real.odds(k, lane, i, n, which), twin.odds(k, lane, i, n, which));
        }

        private void kinds(int b, int k, int lane, int i, int n) {
            check("kinds(" + b + ", " + k + ", " + lane + ", " + i + ", " + n + ")",
                real.kinds(b, k, lane, i, n), twin.kinds(b, k, lane, i, n));
        }

        private void speeds(int b, int k, int lane, int i, int n) {
            check("speeds(" + b + ", " + k + ", " + lane + ", " + i + ", " + n + ")",
                real.speeds(b, k, lane, i, n), twin.speeds(b, k, lane, i, n));
        }

        private int anyNumber() {
            int[] edges = {Integer.MIN_VALUE, Integer.MAX_VALUE, -1, 60, 61, 127, 128, 255, 256, 32767, 32768, 65536 + 119, 8};
            return random.nextInt(3) == 0 ? random.nextInt() : edges[random.nextInt(edges.length)];
        }

        /** A number around 0 .. most, now and then one far off. */
        private int near(int most) {
            return switch (random.nextInt(24)) {
                case 0 -> -1;
                case 1 -> most + 1;
                case 2 -> anyNumber();
                default -> random.nextInt(most + 1);
            };
        }

        private int laneOf(int k) {
            return k >= 0 && k < 4 && random.nextInt(8) > 0 ? twin.laneOf(k) : near(2);
        }

        private void callOne() {
            int k = near(3);
            int lane = laneOf(k);
            int b = near(2);
            int i = random.nextInt(3) == 0 ? near(60) : near(4);
            int n = random.nextInt(2) == 0 ? near(10) : near(Math.max(0, twin.many(2)));
            switch (random.nextInt(26)) {
                case 0 -> lake(k, lane, i, near(30));
                case 1 -> { int what = near(3); check("ofBoat(" + b + ", " + what + ")", real.ofBoat(b, what), twin.ofBoat(b, what)); }
                case 2 -> wind(near(9), near(2));
                case 3 -> isle(near(4), random.nextBoolean());
                case 4 -> plan(k, lane, i, n, random.nextBoolean() ? near(3) : near(12));
                case 5, 6 -> soonest(near(7));
                case 7 -> hats(near(7), near(10));
                case 8 -> rid(b);
                case 9 -> { int h = near(9); int c = near(4); check("reading(" + b + ", " + h + ", " + c + ")", real.reading(b, h, c), twin.reading(b, h, c)); }
                case 10 -> { int m = near(4); check("back(" + m + ")", real.back(m), twin.back(m)); }
                case 11 -> { int h = near(9); check("winds(" + h + ", " + k + ", " + lane + ", " + i + ", " + n + ")", real.winds(h, k, lane, i, n), twin.winds(h, k, lane, i, n)); }
                case 12 -> kinds(b, k, lane, i, n);
                case 13 -> speeds(b, k, lane, i, n);
                case 14 -> odds(k, lane, i, n, near(1));
                case 15 -> sheet(k, near(2), random.nextBoolean() ? near(60) : near(10));
                case 16 -> { if (random.nextInt(3) == 0) check("lose(" + k + ")", real.lose(k), twin.lose(k)); }
                case 17 -> put(k, i, random.nextBoolean() ? anyNumber() : random.nextInt(8));
                case 18 -> check("cell(" + k + ", " + i + ", " + lane + ")", real.cell(k, i, lane), twin.cell(k, i, lane));
                case 19 -> { int o = near(3); int j = near(10); check("copy(" + k + ", " + i + ", " + o + ", " + j + ", " + n + ")", real.copy(k, i, o, j, n), twin.copy(k, i, o, j, n)); }
                case 20 -> check("tell(" + b + ")", real.tell(b), twin.tell(b));
                case 21 -> check("hail(" + b + ")", real.hail(b), twin.hail(b));
                case 22 -> { int kind = near(2); check("as(" + b + ", " + kind + ")", real.as(b, kind), twin.as(b, kind)); }
                case 23 -> check("trace()", real.trace(), twin.trace());
                case 24 -> fault();
                default -> { int what = near(3); check("many(" + what + ")", real.many(what), twin.many(what)); }
            }
            if (random.nextInt(3) == 0) {
                fault();
            }
        }
    }
}
