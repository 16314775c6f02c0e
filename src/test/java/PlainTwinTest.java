import java.util.ArrayList;
import java.util.List;
import java.util.Random;

/**
 * Runs of calls, chosen by fixed seeds, on LakeWind and on a twin that does what the document says
 * by trying everything: real rows with real casts, every plan, every other wind, every chance.
 */
public final class PlainTwinTest {
    private static int wrong = 0;

    public static void main(String[] args) {
        long seeds = args.length > 0 ? Long.parseLong(args[0]) : 400;
        for (long seed = 1; seed <= seeds && wrong < 20; seed++) {
            new Run(seed).play();
        }
        for (long seed = 1; seed <= seeds / 2 && wrong < 20; seed++) {
            new Run(-seed).searchSlowLake();
        }
        System.out.println(wrong == 0 ? "twins agree" : wrong + " answers differ from the twin's");
        if (wrong != 0) {
            System.exit(1);
        }
    }

    /** One run of at most 512 calls. */
    private static final class Run {
        private final long seed;
        private final Random random;
        private final LakeWind real = new LakeWind();
        private final Twin twin = new Twin();
        private final List<String> log = new ArrayList<>();
        private int calls = 0;
        private boolean hasFailed = false;

        Run(long seed) {
            this.seed = seed;
            this.random = new Random(seed);
        }

        void play() {
            while (calls < 430 && !hasFailed) {
                int pick = random.nextInt(40);
                if (pick == 0 || calls == 0 && random.nextInt(4) > 0) {
                    writeLake();
                } else if (pick < 4) {
                    writePlan();
                } else {
                    callOne();
                }
            }
        }

        /** Slow boats from the same shore, so that time is short and hats are called for. */
        void searchSlowLake() {
            StringBuilder text = new StringBuilder("w");
            int wide = 2 + random.nextInt(3);
            text.append(wide);
            for (int c = 1; c < wide; c++) {
                text.append(random.nextInt(2));
            }
            text.append(';');
            int hours = 3 + random.nextInt(8);
            String signs = random.nextBoolean() ? ">>.<" : ".>..<";
            for (int h = 0; h < hours; h++) {
                text.append(signs.charAt(random.nextInt(signs.length())));
            }
            int boats = 1 + random.nextInt(3);
            for (int b = 0; b < boats; b++) {
                text.append(',').append("bbbot".charAt(random.nextInt(5)));
                text.append(random.nextInt(5) == 0 ? 1 : 0).append(random.nextInt(4) == 0 ? 2 : 1);
            }
            sheet(0, 0, text.length());
            for (int c = 0; c < text.length(); c++) {
                put(0, c, text.charAt(c));
            }
            lake(0, 0, 0, text.length());
            for (int round = 0; round < 2; round++) {
                for (int set = 0; set < 1 << boats; set++) {
                    soonest(set);
                }
                for (int b = 0; b < boats; b++) {
                    rid(b);
                }
                for (int n = 0; n <= 10; n++) {
                    hats((1 << boats) - 1, n);
                    hats(random.nextInt(1 << boats), n);
                }
                isle(1 + random.nextInt(wide - 1), random.nextBoolean());
                wind(random.nextInt(hours), random.nextInt(3));
            }
        }

        private void soonest(int set) {
            check("soonest(" + set + ")", real.soonest(set), twin.soonest(set));
        }

        private void hats(int set, int n) {
            check("hats(" + set + ", " + n + ")", real.hats(set, n), twin.hats(set, n));
        }

        private void rid(int b) {
            check("rid(" + b + ")", real.rid(b), twin.rid(b));
        }

        private void isle(int c, boolean is) {
            check("isle(" + c + ", " + is + ")", real.isle(c, is), twin.isle(c, is));
        }

        private void wind(int hour, int v) {
            check("wind(" + hour + ", " + v + ")", real.wind(hour, v), twin.wind(hour, v));
        }

        private void check(String call, long got, long due) {
            calls++;
            log.add(call + " -> " + due);
            if (got != due && !hasFailed) {
                hasFailed = true;
                wrong++;
                System.out.println("seed " + seed + ", call " + calls + ": " + call + " answered " + got + ", due is " + due);
                for (String line : log.subList(Math.max(0, log.size() - 60), log.size())) {
                    System.out.println("    " + line);
                }
            }
        }

        private void sheet(int k, int lane, int n) {
            check("sheet(" + k + ", " + lane + ", " + n + ")", real.sheet(k, lane, n), twin.sheet(k, lane, n));
        }

        private void put(int k, int i, int v) {
            check("put(" + k + ", " + i + ", " + v + ")", real.put(k, i, v), twin.put(k, i, v));
        }

        private void fault() {
            check("fault()", real.fault(), twin.fault());
        }

        private void lake(int k, int lane, int i, int n) {
            check("lake(" + k + ", " + lane + ", " + i + ", " + n + ")", real.lake(k, lane, i, n), twin.lake(k, lane, i, n));
        }

        private void writeLake() {
            int k = random.nextInt(4);
            int lane = random.nextInt(3);
            String text = anyText();
            int before = random.nextInt(3);
            sheet(k, lane, before + text.length());
            for (int c = 0; c < text.length(); c++) {
                put(k, before + c, text.charAt(c));
            }
            lake(k, lane, before, text.length());
            fault();
            for (int what = 0; what < 4; what++) {
                check("many(" + what + ")", real.many(what), twin.many(what));
            }
        }

        private String anyText() {
            StringBuilder text = new StringBuilder("w");
            int wide = 2 + random.nextInt(3);
            text.append(wide);
            for (int c = 1; c < wide; c++) {
                text.append(random.nextInt(2));
            }
            text.append(';');
            int hours = 1 + random.nextInt(random.nextInt(4) == 0 ? 11 : 7);
            for (int h = 0; h < hours; h++) {
                text.append("><><.".charAt(random.nextInt(5)));
            }
            int boats = 1 + random.nextInt(random.nextInt(8) == 0 ? 4 : 3);
            int side = random.nextInt(3);
            for (int b = 0; b < boats; b++) {
                text.append(',').append("bbot".charAt(random.nextInt(4)));
                text.append(side < 2 ? side : random.nextInt(2)).append(1 + random.nextInt(3));
            }
            if (random.nextInt(4) == 0) {
                spoil(text);
            }
            return text.toString();
        }

        private void spoil(StringBuilder text) {
            int at = random.nextInt(text.length());
            switch (random.nextInt(3)) {
                case 0 -> text.setLength(at);
                case 1 -> text.setCharAt(at, "w0123456;><.,botx".charAt(random.nextInt(17)));
                default -> text.insert(at, "w0123456;><.,botx".charAt(random.nextInt(17)));
            }
        }

        private void writePlan() {
            int k = random.nextInt(4);
            int lane = random.nextInt(3);
            int hours = twin.many(2);
            int n = random.nextInt(3) == 0 ? random.nextInt(12) : hours;
            int all = (1 << twin.many(0)) - 1;
            sheet(k, lane, n);
            for (int i = 0; i < n; i++) {
                put(k, i, random.nextInt(40) == 0 ? anyNumber() : random.nextInt(all + 1) | random.nextInt(all + 1));
            }
            for (int what = 0; what < 4; what++) {
                plan(k, lane, 0, n, what);
            }
            for (int b = 0; b < 3; b++) {
                plan(k, lane, 0, n, 10 + b);
            }
            odds(k, lane, 0, n, 0);
            odds(k, lane, 0, n, 1);
            if (random.nextBoolean()) {
                truthfulReadings(k, lane, n);
            }
        }

        /** Readings that are so by the plan as it is, so that sets of winds and kinds are not just empty. */
        private void truthfulReadings(int k, int lane, int n) {
            for (int r = 0; r < 2 && n > 0; r++) {
                int hour = random.nextInt(n);
                int b = random.nextInt(3);
                int c = twin.plan(k, lane, 0, hour + 1, 10 + b);
                check("reading(" + b + ", " + hour + ", " + c + ")", real.reading(b, hour, c), twin.reading(b, hour, c));
            }
            for (int hour = 0; hour < n; hour++) {
                check("winds(" + hour + ", " + k + ", " + lane + ", 0, " + n + ")",
                    real.winds(hour, k, lane, 0, n), twin.winds(hour, k, lane, 0, n));
            }
            for (int b = 0; b < 3; b++) {
                kinds(b, k, lane, 0, n);
                speeds(b, k, lane, 0, n);
            }
        }

        private void plan(int k, int lane, int i, int n, int what) {
            check("plan(" + k + ", " + lane + ", " + i + ", " + n + ", " + what + ")",
                real.plan(k, lane, i, n, what), twin.plan(k, lane, i, n, what));
        }

        private void odds(int k, int lane, int i, int n, int which) {
            check("odds(" + k + ", " + lane + ", " + i + ", " + n + ", " + which + ")",
                real.odds(k, lane, i, n, which), twin.odds(k, lane, i, n, which));
        }

        private void kinds(int b, int k, int lane, int i, int n) {
            check("kinds(" + b + ", " + k + ", " + lane + ", " + i + ", " + n + ")",
                real.kinds(b, k, lane, i, n), twin.kinds(b, k, lane, i, n));
        }

        private void speeds(int b, int k, int lane, int i, int n) {
            check("speeds(" + b + ", " + k + ", " + lane + ", " + i + ", " + n + ")",
                real.speeds(b, k, lane, i, n), twin.speeds(b, k, lane, i, n));
        }

        private int anyNumber() {
            int[] edges = {Integer.MIN_VALUE, Integer.MAX_VALUE, -1, 60, 61, 127, 128, 255, 256, 32767, 32768, 65536 + 119, 8};
            return random.nextInt(3) == 0 ? random.nextInt() : edges[random.nextInt(edges.length)];
        }

        /** A number around 0 .. most, now and then one far off. */
        private int near(int most) {
            return switch (random.nextInt(24)) {
                case 0 -> -1;
                case 1 -> most + 1;
                case 2 -> anyNumber();
                default -> random.nextInt(most + 1);
            };
        }

        private int laneOf(int k) {
            return k >= 0 && k < 4 && random.nextInt(8) > 0 ? twin.laneOf(k) : near(2);
        }

        private void callOne() {
            int k = near(3);
            int lane = laneOf(k);
            int b = near(2);
            int i = random.nextInt(3) == 0 ? near(60) : near(4);
            int n = random.nextInt(2) == 0 ? near(10) : near(Math.max(0, twin.many(2)));
            switch (random.nextInt(26)) {
                case 0 -> lake(k, lane, i, near(30));
                case 1 -> { int what = near(3); check("ofBoat(" + b + ", " + what + ")", real.ofBoat(b, what), twin.ofBoat(b, what)); }
                case 2 -> wind(near(9), near(2));
                case 3 -> isle(near(4), random.nextBoolean());
                case 4 -> plan(k, lane, i, n, random.nextBoolean() ? near(3) : near(12));
                case 5, 6 -> soonest(near(7));
                case 7 -> hats(near(7), near(10));
                case 8 -> rid(b);
                case 9 -> { int h = near(9); int c = near(4); check("reading(" + b + ", " + h + ", " + c + ")", real.reading(b, h, c), twin.reading(b, h, c)); }
                case 10 -> { int m = near(4); check("back(" + m + ")", real.back(m), twin.back(m)); }
                case 11 -> { int h = near(9); check("winds(" + h + ", " + k + ", " + lane + ", " + i + ", " + n + ")", real.winds(h, k, lane, i, n), twin.winds(h, k, lane, i, n)); }
                case 12 -> kinds(b, k, lane, i, n);
                case 13 -> speeds(b, k, lane, i, n);
                case 14 -> odds(k, lane, i, n, near(1));
                case 15 -> sheet(k, near(2), random.nextBoolean() ? near(60) : near(10));
                case 16 -> { if (random.nextInt(3) == 0) check("lose(" + k + ")", real.lose(k), twin.lose(k)); }
                case 17 -> put(k, i, random.nextBoolean() ? anyNumber() : random.nextInt(8));
                case 18 -> check("cell(" + k + ", " + i + ", " + lane + ")", real.cell(k, i, lane), twin.cell(k, i, lane));
                case 19 -> { int o = near(3); int j = near(10); check("copy(" + k + ", " + i + ", " + o + ", " + j + ", " + n + ")", real.copy(k, i, o, j, n), twin.copy(k, i, o, j, n)); }
                case 20 -> check("tell(" + b + ")", real.tell(b), twin.tell(b));
                case 21 -> check("hail(" + b + ")", real.hail(b), twin.hail(b));
                case 22 -> { int kind = near(2); check("as(" + b + ", " + kind + ")", real.as(b, kind), twin.as(b, kind)); }
                case 23 -> check("trace()", real.trace(), twin.trace());
                case 24 -> fault();
                default -> { int what = near(3); check("many(" + what + ")", real.many(what), twin.many(what)); }
            }
            if (random.nextInt(3) == 0) {
                fault();
            }
        }
    }

    private record Craft(int kind, int from, int fast) {
        int against() {
            return kind == 1 ? fast + 1 : fast;
        }
    }

    private record Reading(int boat, int hour, int cell) { }

    private record Water(int wide, boolean[] isles, int[] winds, Craft[] crafts) { }

    /** The document, said plainly. */
    private static final class Twin {
        private final Object[] sheets = new Object[4];
        private Water water = null;
        private final List<Reading> readings = new ArrayList<>();
        private int trace = 0;
        private int fault = 0;

        int laneOf(int k) {
            return sheets[k] instanceof byte[] ? 0 : sheets[k] instanceof short[] ? 1 : 2;
        }

        private static int faultOf(RuntimeException e) {
            if (e instanceof NullPointerException) {
                return 1;
            }
            if (e instanceof ClassCastException || e instanceof ArrayStoreException) {
                return 2;
            }
            if (e instanceof IndexOutOfBoundsException) {
                return 3;
            }
            if (e instanceof NegativeArraySizeException) {
                return 4;
            }
            throw e;
        }

        private int faulted(RuntimeException e) {
            fault = faultOf(e);
            return -10 - fault;
        }

        /** n numbers from i on by the machine's own cast, null check, size check and bounds check. */
        private static int[] taken(Object row, int lane, int i, int n) {
            int[] all;
            if (lane == 0) {
                byte[] cells = (byte[]) row;
                all = new int[cells.length];
                for (int c = 0; c < all.length; c++) {
                    all[c] = cells[c];
                }
            } else if (lane == 1) {
                short[] cells = (short[]) row;
                all = new int[cells.length];
                for (int c = 0; c < all.length; c++) {
                    all[c] = cells[c];
                }
            } else {
                all = ((int[]) row).clone();
            }
            int[] some = new int[Math.min(n, 100)];
            System.arraycopy(all, i, some, 0, n);
            return some;
        }

        int lake(int k, int lane, int i, int n) {
            fault = 0;
            if (k < 0 || k > 3) {
                return -1;
            }
            if (lane < 0 || lane > 2) {
                return -2;
            }
            int[] codes;
            try {
                codes = taken(sheets[k], lane, i, n);
            } catch (RuntimeException e) {
                return faulted(e);
            }
            StringBuilder text = new StringBuilder();
            for (int code : codes) {
                text.append(code >= 0 && code < 128 ? (char) code : '?');
            }
            int good = 0;
            while (good <= text.length() && goesOn(text.substring(0, good))) {
                good++;
            }
            if (good <= text.length()) {
                return -100 - (good - 1);
            }
            if (!isWhole(text.toString())) {
                return -100 - text.length();
            }
            water = waterOf(text.toString());
            readings.clear();
            return water.crafts().length;
        }

        private static boolean isWhole(String text) {
            return text.matches("w(2[01]|3[01][01]|4[01][01][01]);[<>.]{1,10}(,[bot][01][123]){1,3}");
        }

        /** Whether some text begins with this: tried with every way in which a text could go on. */
        private static boolean goesOn(String start) {
            String[] tails = {"w20;.,b01", "20;.,b01", "0;.,b01", "00;.,b01", "000;.,b01", ";.,b01", ".,b01", ",b01", "b01", "01", "1", ""};
            for (String tail : tails) {
                if (isWhole(start + tail)) {
                    return true;
                }
            }
            return false;
        }

        private static Water waterOf(String text) {
            int wide = text.charAt(1) - '0';
            boolean[] isles = new boolean[wide + 1];
            for (int c = 1; c < wide; c++) {
                isles[c] = text.charAt(1 + c) == '1';
            }
            String[] parts = text.substring(text.indexOf(';') + 1).split(",");
            int[] winds = new int[parts[0].length()];
            for (int h = 0; h < winds.length; h++) {
                winds[h] = ".><".indexOf(parts[0].charAt(h));
            }
            Craft[] crafts = new Craft[parts.length - 1];
            for (int b = 0; b < crafts.length; b++) {
                String part = parts[b + 1];
                crafts[b] = new Craft("bot".indexOf(part.charAt(0)), part.charAt(1) - '0', part.charAt(2) - '0');
            }
            return new Water(wide, isles, winds, crafts);
        }

        private boolean isBoat(int b) {
            return water != null && b >= 0 && b < water.crafts().length;
        }

        private boolean isSet(int set) {
            return set >= 0 && set < 1 << water.crafts().length;
        }

        int ofBoat(int b, int what) {
            if (!isBoat(b)) {
                return -1;
            }
            Craft craft = water.crafts()[b];
            return switch (what) {
                case 0 -> craft.kind();
                case 1 -> craft.from();
                case 2 -> craft.fast();
                case 3 -> craft.against();
                default -> -2;
            };
        }

        int wind(int hour, int v) {
            if (water == null) {
                return -3;
            }
            if (hour < 0 || hour >= water.winds().length || v < 0 || v > 2) {
                return -2;
            }
            int was = water.winds()[hour];
            water.winds()[hour] = v;
            return was;
        }

        int isle(int c, boolean is) {
            if (water == null) {
                return -3;
            }
            if (c < 1 || c > water.wide() - 1) {
                return -2;
            }
            boolean was = water.isles()[c];
            water.isles()[c] = is;
            return was == is ? 0 : 1;
        }

        private static int goal(Water w, Craft craft) {
            return craft.from() == 0 ? w.wide() : 0;
        }

        private static int[] starts(Water w) {
            int[] cells = new int[w.crafts().length];
            for (int b = 0; b < cells.length; b++) {
                cells[b] = w.crafts()[b].from() == 0 ? 0 : w.wide();
            }
            return cells;
        }

        /** The hour's goers, then those of them that are fined; moves the cells. */
        private static int finedIn(Water w, int[] cells, int set, int wind) {
            int with = 0;
            int[] was = cells.clone();
            for (int b = 0; b < cells.length; b++) {
                Craft craft = w.crafts()[b];
                int toward = craft.from() == 0 ? 1 : -1;
                int blow = wind == 0 ? 0 : wind == 1 ? 1 : -1;
                boolean over = was[b] == goal(w, craft);
                boolean goes = !over && (set & 1 << b) != 0;
                if (blow == 0) {
                    continue;
                }
                if (goes && toward == blow && craft.kind() != 2) {
                    with++;
                }
                if (goes) {
                    int far = toward == blow ? craft.fast() : craft.against();
                    for (int step = 0; step < far && cells[b] != goal(w, craft); step++) {
                        cells[b] += toward;
                    }
                } else if (was[b] != 0 && was[b] != w.wide() && !w.isles()[was[b]]) {
                    cells[b] += blow;
                }
            }
            return with >= 2 ? with : 0;
        }

        private static int over(Water w, int[] cells) {
            int set = 0;
            for (int b = 0; b < cells.length; b++) {
                if (cells[b] == goal(w, w.crafts()[b])) {
                    set += 1 << b;
                }
            }
            return set;
        }

        private int[] orders = new int[0];

        private int refusal(int k, int lane, int i, int n, boolean isOther) {
            fault = 0;
            if (k < 0 || k > 3) {
                return -1;
            }
            if (lane < 0 || lane > 2 || n < 0 || n > 10 || !isOther) {
                return -2;
            }
            try {
                orders = taken(sheets[k], lane, i, n);
            } catch (RuntimeException e) {
                return faulted(e);
            }
            if (water == null) {
                return -3;
            }
            if (n > water.winds().length) {
                return -2;
            }
            for (int set : orders) {
                if (!isSet(set)) {
                    return -2;
                }
            }
            return 0;
        }

        int plan(int k, int lane, int i, int n, int what) {
            int no = refusal(k, lane, i, n, what >= 0 && what <= 3 || what >= 10 && what <= 12);
            if (no != 0) {
                return no;
            }
            int[] cells = starts(water);
            int fines = 0;
            int first = -9;
            int all = -9;
            for (int h = 0; h < n; h++) {
                int fined = finedIn(water, cells, orders[h], water.winds()[h]);
                fines += fined;
                first = first == -9 && fined > 0 ? h : first;
                all = all == -9 && Integer.bitCount(over(water, cells)) == cells.length ? h : all;
            }
            return switch (what) {
                case 0 -> over(water, cells);
                case 1 -> fines;
                case 2 -> first;
                case 3 -> all;
                default -> what - 10 < cells.length ? cells[what - 10] : -9;
            };
        }

        private static int code(int[] cells) {
            int code = 0;
            for (int c : cells) {
                code = 8 * code + c;
            }
            return code;
        }

        private static int soonest(Water w, int[] winds, int set) {
            boolean[] reached = new boolean[512];
            List<int[]> now = new ArrayList<>();
            now.add(starts(w));
            for (int h = 0; ; h++) {
                for (int[] cells : now) {
                    if ((over(w, cells) & set) == set) {
                        return h;
                    }
                }
                if (h == winds.length) {
                    return -9;
                }
                List<int[]> next = new ArrayList<>();
                java.util.Arrays.fill(reached, false);
                for (int[] cells : now) {
                    for (int go = 0; go < 1 << cells.length; go++) {
                        int[] then = cells.clone();
                        if (finedIn(w, then, go, winds[h]) == 0 && !reached[code(then)]) {
                            reached[code(then)] = true;
                            next.add(then);
                        }
                    }
                }
                now = next;
            }
        }

        int soonest(int set) {
            if (water == null) {
                return -3;
            }
            return isSet(set) ? soonest(water, water.winds(), set) : -2;
        }

        int hats(int set, int n) {
            if (water == null) {
                return -3;
            }
            if (!isSet(set) || n < 0 || n > 10) {
                return -2;
            }
            for (int many = 0; many <= 2; many++) {
                for (int hours = 0; hours < 1 << water.winds().length; hours++) {
                    if (Integer.bitCount(hours) == many && isInTime(water.winds().clone(), hours, set, n)) {
                        return hours;
                    }
                }
            }
            return -9;
        }

        /** Tries each other wind of the lowest hour that is left, and so on. */
        private boolean isInTime(int[] winds, int hours, int set, int n) {
            if (hours == 0) {
                int found = soonest(water, winds, set);
                return found != -9 && found <= n;
            }
            int h = Integer.numberOfTrailingZeros(hours);
            int was = winds[h];
            boolean is = false;
            for (int v = 0; v < 3; v++) {
                if (v != was) {
                    winds[h] = v;
                    is = is || isInTime(winds, hours & hours - 1, set, n);
                }
            }
            winds[h] = was;
            return is;
        }

        int rid(int b) {
            if (!isBoat(b)) {
                return -1;
            }
            int all = (1 << water.crafts().length) - 1;
            int withIt = soonest(all);
            return withIt == -9 ? -9 : withIt - soonest(all - (1 << b));
        }

        int reading(int b, int hour, int c) {
            if (!isBoat(b)) {
                return -1;
            }
            if (hour < 0 || hour > 9 || c < 0 || c > water.wide()) {
                return -2;
            }
            if (readings.size() == 8) {
                return -4;
            }
            readings.add(new Reading(b, hour, c));
            return readings.size() - 1;
        }

        int back(int k) {
            if (k < 0 || k > readings.size()) {
                return -2;
            }
            for (int r = 0; r < k; r++) {
                readings.remove(readings.size() - 1);
            }
            return readings.size();
        }

        private boolean isAsRead(Water w, int[] winds) {
            for (Reading reading : readings) {
                if (reading.hour() >= orders.length) {
                    return false;
                }
                int[] cells = starts(w);
                for (int h = 0; h <= reading.hour(); h++) {
                    finedIn(w, cells, orders[h], winds[h]);
                }
                if (cells[reading.boat()] != reading.cell()) {
                    return false;
                }
            }
            return true;
        }

        int winds(int hour, int k, int lane, int i, int n) {
            fault = 0;
            if (water == null || hour < 0 || hour >= water.winds().length) {
                return -2;
            }
            int no = refusal(k, lane, i, n, true);
            if (no != 0) {
                return no;
            }
            int set = 0;
            for (int v = 0; v < 3; v++) {
                int[] winds = water.winds().clone();
                winds[hour] = v;
                set += isAsRead(water, winds) ? 1 << v : 0;
            }
            return set;
        }

        private Water withCraft(int b, Craft craft) {
            Craft[] crafts = water.crafts().clone();
            crafts[b] = craft;
            return new Water(water.wide(), water.isles(), water.winds(), crafts);
        }

        int kinds(int b, int k, int lane, int i, int n) {
            fault = 0;
            if (!isBoat(b)) {
                return -1;
            }
            int no = refusal(k, lane, i, n, true);
            if (no != 0) {
                return no;
            }
            int set = 0;
            Craft is = water.crafts()[b];
            for (int kind = 0; kind < 3; kind++) {
                set += isAsRead(withCraft(b, new Craft(kind, is.from(), is.fast())), water.winds()) ? 1 << kind : 0;
            }
            return set;
        }

        int speeds(int b, int k, int lane, int i, int n) {
            fault = 0;
            if (!isBoat(b)) {
                return -1;
            }
            int no = refusal(k, lane, i, n, true);
            if (no != 0) {
                return no;
            }
            int set = 0;
            Craft is = water.crafts()[b];
            for (int fast = 1; fast < 4; fast++) {
                set += isAsRead(withCraft(b, new Craft(is.kind(), is.from(), fast)), water.winds()) ? 1 << fast : 0;
            }
            return set;
        }

        long odds(int k, int lane, int i, int n, int which) {
            if (refusal(k, lane, i, n, which == 0 || which == 1) != 0) {
                return Long.MIN_VALUE;
            }
            int free = 0;
            for (int chance = 0; chance < 1 << n; chance++) {
                int[] cells = starts(water);
                int fined = 0;
                for (int h = 0; h < n; h++) {
                    fined += finedIn(water, cells, orders[h], 1 + (chance >> h & 1));
                }
                free += fined == 0 ? 1 : 0;
            }
            int common = java.math.BigInteger.valueOf(free).gcd(java.math.BigInteger.valueOf(1 << n)).intValue();
            return which == 0 ? free / common : (1 << n) / common;
        }

        int sheet(int k, int lane, int n) {
            fault = 0;
            if (k < 0 || k > 3) {
                return -1;
            }
            if (lane < 0 || lane > 2 || n > 60) {
                return -2;
            }
            try {
                sheets[k] = lane == 0 ? new byte[n] : lane == 1 ? new short[n] : new int[n];
            } catch (NegativeArraySizeException e) {
                return faulted(e);
            }
            return 1;
        }

        int lose(int k) {
            if (k < 0 || k > 3) {
                return -1;
            }
            boolean had = sheets[k] != null;
            sheets[k] = null;
            return had ? 1 : 0;
        }

        int put(int k, int i, int v) {
            fault = 0;
            if (k < 0 || k > 3) {
                return -1;
            }
            try {
                switch (laneOf(k)) {
                    case 0 -> ((byte[]) sheets[k])[i] = (byte) v;
                    case 1 -> ((short[]) sheets[k])[i] = (short) v;
                    default -> ((int[]) sheets[k])[i] = v;
                }
            } catch (RuntimeException e) {
                return faulted(e);
            }
            return 1;
        }

        long cell(int k, int i, int lane) {
            fault = 0;
            if (k < 0 || k > 3 || lane < 0 || lane > 2) {
                return Long.MIN_VALUE;
            }
            try {
                return switch (lane) {
                    case 0 -> ((byte[]) sheets[k])[i];
                    case 1 -> ((short[]) sheets[k])[i];
                    default -> ((int[]) sheets[k])[i];
                };
            } catch (RuntimeException e) {
                faulted(e);
                return Long.MIN_VALUE;
            }
        }

        int copy(int k, int i, int other, int j, int n) {
            fault = 0;
            if (k < 0 || k > 3 || other < 0 || other > 3) {
                return -1;
            }
            try {
                System.arraycopy(sheets[k], i, sheets[other], j, n);
            } catch (RuntimeException e) {
                return faulted(e);
            }
            return n;
        }

        private void leave(int... bodies) {
            for (int body : bodies) {
                trace = trace * 31 + body;
            }
        }

        int tell(int b) {
            if (!isBoat(b)) {
                return -1;
            }
            Craft craft = water.crafts()[b];
            switch (craft.kind()) {
                case 0 -> leave(1);
                case 1 -> leave(2, 1);
                default -> leave(3, 2, 1, 1);
            }
            return craft.kind() == 0 ? craft.fast() : craft.kind() == 1 ? craft.fast() + 100 : 2 * craft.fast() + 100;
        }

        int hail(int b) {
            if (!isBoat(b)) {
                return -1;
            }
            boolean isTowed = water.crafts()[b].kind() == 2;
            leave(isTowed ? 5 : 4);
            return isTowed ? 70 : b;
        }

        int as(int b, int kind) {
            fault = 0;
            if (!isBoat(b)) {
                return -1;
            }
            if (kind < 0 || kind > 2) {
                return -2;
            }
            if (water.crafts()[b].kind() < kind) {
                fault = 2;
                return -12;
            }
            return 1;
        }

        int trace() {
            return trace;
        }

        int fault() {
            return fault;
        }

        int many(int what) {
            if (what < 0 || what > 3) {
                return -2;
            }
            if (water == null) {
                return 0;
            }
            return switch (what) {
                case 0 -> water.crafts().length;
                case 1 -> water.wide();
                case 2 -> water.winds().length;
                default -> readings.size();
            };
        }
    }
}
