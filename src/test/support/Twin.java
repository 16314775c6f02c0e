import java.util.ArrayList;
import java.util.List;

/** The document, said plainly: it tries everything, and takes the machine's own faults for FAULTS. */
final class Twin {
    private record Craft(int kind, int from, int fast) {
        int against() {
            return kind == 1 ? fast + 1 : fast;
        }
    }

    private record Reading(int boat, int hour, int cell) { }

    private record Water(int wide, boolean[] isles, int[] winds, Craft[] crafts) { }

    private final Object[] sheets = new Object[4];
    private Water water = null;
    private final List<Reading> readings = new ArrayList<>();
    private int trace = 0;
    private int fault = 0;

    int laneOf(int k) {
        return sheets[k] instanceof byte[] ? 0 : sheets[k] instanceof short[] ? 1 : 2;
    }

    private static int faultOf(RuntimeException e) {
        if (e instanceof NullPointerException) {
            return 1;
        }
        if (e instanceof ClassCastException || e instanceof ArrayStoreException) {
            return 2;
        }
        if (e instanceof IndexOutOfBoundsException) {
            return 3;
        }
        if (e instanceof NegativeArraySizeException) {
            return 4;
        }
        throw e;
    }

    private int faulted(RuntimeException e) {
        fault = faultOf(e);
        return -10 - fault;
    }

    /** n numbers from i on by the machine's own cast, null check, size check and bounds check. */
    private static int[] taken(Object row, int lane, int i, int n) {
        int[] all;
        if (lane == 0) {
            byte[] cells = (byte[]) row;
            all = new int[cells.length];
            for (int c = 0; c < all.length; c++) {
                all[c] = cells[c];
            }
        } else if (lane == 1) {
            short[] cells = (short[]) row;
            all = new int[cells.length];
            for (int c = 0; c < all.length; c++) {
                all[c] = cells[c];
            }
        } else {
            all = ((int[]) row).clone();
        }
        int[] some = new int[Math.min(n, 100)];
        System.arraycopy(all, i, some, 0, n);
        return some;
    }

    int lake(int k, int lane, int i, int n) {
        fault = 0;
        if (k < 0 || k > 3) {
            return -1;
        }
        if (lane < 0 || lane > 2) {
            return -2;
        }
        int[] codes;
        try {
            codes = taken(sheets[k], lane, i, n);
        } catch (RuntimeException e) {
            return faulted(e);
        }
        StringBuilder text = new StringBuilder();
        for (int code : codes) {
            text.append(code >= 0 && code < 128 ? (char) code : '?');
        }
        int good = 0;
        while (good <= text.length() && goesOn(text.substring(0, good))) {
            good++;
        }
        if (good <= text.length()) {
            return -100 - (good - 1);
        }
        if (!isWhole(text.toString())) {
            return -100 - text.length();
        }
        water = waterOf(text.toString());
        readings.clear();
        return water.crafts().length;
    }

    private static boolean isWhole(String text) {
        return text.matches("w(2[01]|3[01][01]|4[01][01][01]);[<>.]{1,10}(,[bot][01][123]){1,3}");
    }

    /** Whether some text begins with this: tried with every way in which a text could go on. */
    private static boolean goesOn(String start) {
        String[] tails = {"w20;.,b01", "20;.,b01", "0;.,b01", "00;.,b01", "000;.,b01", ";.,b01", ".,b01", ",b01", "b01", "01", "1", ""};
        for (String tail : tails) {
            if (isWhole(start + tail)) {
                return true;
            }
        }
        return false;
    }

    private static Water waterOf(String text) {
        int wide = text.charAt(1) - '0';
        boolean[] isles = new boolean[wide + 1];
        for (int c = 1; c < wide; c++) {
            isles[c] = text.charAt(1 + c) == '1';
        }
        String[] parts = text.substring(text.indexOf(';') + 1).split(",");
        int[] winds = new int[parts[0].length()];
        for (int h = 0; h < winds.length; h++) {
            winds[h] = ".><".indexOf(parts[0].charAt(h));
        }
        Craft[] crafts = new Craft[parts.length - 1];
        for (int b = 0; b < crafts.length; b++) {
            String part = parts[b + 1];
            crafts[b] = new Craft("bot".indexOf(part.charAt(0)), part.charAt(1) - '0', part.charAt(2) - '0');
        }
        return new Water(wide, isles, winds, crafts);
    }

    private boolean isBoat(int b) {
        return water != null && b >= 0 && b < water.crafts().length;
    }

    private boolean isSet(int set) {
        return set >= 0 && set < 1 << water.crafts().length;
    }

    int ofBoat(int b, int what) {
        if (!isBoat(b)) {
            return -1;
        }
        Craft craft = water.crafts()[b];
        return switch (what) {
            case 0 -> craft.kind();
            case 1 -> craft.from();
            case 2 -> craft.fast();
            case 3 -> craft.against();
            default -> -2;
        };
    }

    int wind(int hour, int v) {
        if (water == null) {
            return -3;
        }
        if (hour < 0 || hour >= water.winds().length || v < 0 || v > 2) {
            return -2;
        }
        int was = water.winds()[hour];
        water.winds()[hour] = v;
        return was;
    }

    int isle(int c, boolean is) {
        if (water == null) {
            return -3;
        }
        if (c < 1 || c > water.wide() - 1) {
            return -2;
        }
        boolean was = water.isles()[c];
        water.isles()[c] = is;
        return was == is ? 0 : 1;
    }

    private static int goal(Water w, Craft craft) {
        return craft.from() == 0 ? w.wide() : 0;
    }

    private static int[] starts(Water w) {
        int[] cells = new int[w.crafts().length];
        for (int b = 0; b < cells.length; b++) {
            cells[b] = w.crafts()[b].from() == 0 ? 0 : w.wide();
        }
        return cells;
    }

    /** The hour's goers, then those of them that are fined; moves the cells. */
    private static int finedIn(Water w, int[] cells, int set, int wind) {
        int with = 0;
        int[] was = cells.clone();
        for (int b = 0; b < cells.length; b++) {
            Craft craft = w.crafts()[b];
            int toward = craft.from() == 0 ? 1 : -1;
            int blow = wind == 0 ? 0 : wind == 1 ? 1 : -1;
            boolean over = was[b] == goal(w, craft);
            boolean goes = !over && (set & 1 << b) != 0;
            if (blow == 0) {
                continue;
            }
            if (goes && toward == blow && craft.kind() != 2) {
                with++;
            }
            if (goes) {
                int far = toward == blow ? craft.fast() : craft.against();
                for (int step = 0; step < far && cells[b] != goal(w, craft); step++) {
                    cells[b] += toward;
                }
            } else if (was[b] != 0 && was[b] != w.wide() && !w.isles()[was[b]]) {
                cells[b] += blow;
            }
        }
        return with >= 2 ? with : 0;
    }

    private static int over(Water w, int[] cells) {
        int set = 0;
        for (int b = 0; b < cells.length; b++) {
            if (cells[b] == goal(w, w.crafts()[b])) {
                set += 1 << b;
            }
        }
        return set;
    }

    private int[] orders = new int[0];

    private int refusal(int k, int lane, int i, int n, boolean isOther) {
        fault = 0;
        if (k < 0 || k > 3) {
            return -1;
        }
        if (lane < 0 || lane > 2 || n < 0 || n > 10 || !isOther) {
            return -2;
        }
        try {
            orders = taken(sheets[k], lane, i, n);
        } catch (RuntimeException e) {
            return faulted(e);
        }
        if (water == null) {
            return -3;
        }
        if (n > water.winds().length) {
            return -2;
        }
        for (int set : orders) {
            if (!isSet(set)) {
                return -2;
            }
        }
        return 0;
    }

    int plan(int k, int lane, int i, int n, int what) {
        int no = refusal(k, lane, i, n, what >= 0 && what <= 3 || what >= 10 && what <= 12);
        if (no != 0) {
            return no;
        }
        int[] cells = starts(water);
        int fines = 0;
        int first = -9;
        int all = -9;
        for (int h = 0; h < n; h++) {
            int fined = finedIn(water, cells, orders[h], water.winds()[h]);
            fines += fined;
            first = first == -9 && fined > 0 ? h : first;
            all = all == -9 && Integer.bitCount(over(water, cells)) == cells.length ? h : all;
        }
        return switch (what) {
            case 0 -> over(water, cells);
            case 1 -> fines;
            case 2 -> first;
            case 3 -> all;
            default -> what - 10 < cells.length ? cells[what - 10] : -9;
        };
    }

    private static int code(int[] cells) {
        int code = 0;
        for (int c : cells) {
            code = 8 * code + c;
        }
        return code;
    }

    private static int soonest(Water w, int[] winds, int set) {
        boolean[] reached = new boolean[512];
        List<int[]> now = new ArrayList<>();
        now.add(starts(w));
        for (int h = 0; ; h++) {
            for (int[] cells : now) {
                if ((over(w, cells) & set) == set) {
                    return h;
                }
            }
            if (h == winds.length) {
                return -9;
            }
            List<int[]> next = new ArrayList<>();
            java.util.Arrays.fill(reached, false);
            for (int[] cells : now) {
                for (int go = 0; go < 1 << cells.length; go++) {
                    int[] then = cells.clone();
                    if (finedIn(w, then, go, winds[h]) == 0 && !reached[code(then)]) {
                        reached[code(then)] = true;
                        next.add(then);
                    }
                }
            }
            now = next;
        }
    }

    int soonest(int set) {
        if (water == null) {
            return -3;
        }
        return isSet(set) ? soonest(water, water.winds(), set) : -2;
    }

    int hats(int set, int n) {
        if (water == null) {
            return -3;
        }
        if (!isSet(set) || n < 0 || n > 10) {
            return -2;
        }
        for (int many = 0; many <= 2; many++) {
            for (int hours = 0; hours < 1 << water.winds().length; hours++) {
                if (Integer.bitCount(hours) == many && isInTime(water.winds().clone(), hours, set, n)) {
                    return hours;
                }
            }
        }
        return -9;
    }

    /** Tries each other wind of the lowest hour that is left, and so on. */
    private boolean isInTime(int[] winds, int hours, int set, int n) {
        if (hours == 0) {
            int found = soonest(water, winds, set);
            return found != -9 && found <= n;
        }
        int h = Integer.numberOfTrailingZeros(hours);
        int was = winds[h];
        boolean is = false;
        for (int v = 0; v < 3; v++) {
            if (v != was) {
                winds[h] = v;
                is = is || isInTime(winds, hours & hours - 1, set, n);
            }
        }
        winds[h] = was;
        return is;
    }

    int rid(int b) {
        if (!isBoat(b)) {
            return -1;
        }
        int all = (1 << water.crafts().length) - 1;
        int withIt = soonest(all);
        return withIt == -9 ? -9 : withIt - soonest(all - (1 << b));
    }

    int reading(int b, int hour, int c) {
        if (!isBoat(b)) {
            return -1;
        }
        if (hour < 0 || hour > 9 || c < 0 || c > water.wide()) {
            return -2;
        }
        if (readings.size() == 8) {
            return -4;
        }
        readings.add(new Reading(b, hour, c));
        return readings.size() - 1;
    }

    int back(int k) {
        if (k < 0 || k > readings.size()) {
            return -2;
        }
        for (int r = 0; r < k; r++) {
            readings.remove(readings.size() - 1);
        }
        return readings.size();
    }

    private boolean isAsRead(Water w, int[] winds) {
        for (Reading reading : readings) {
            if (reading.hour() >= orders.length) {
                return false;
            }
            int[] cells = starts(w);
            for (int h = 0; h <= reading.hour(); h++) {
                finedIn(w, cells, orders[h], winds[h]);
            }
            if (cells[reading.boat()] != reading.cell()) {
                return false;
            }
        }
        return true;
    }

    int winds(int hour, int k, int lane, int i, int n) {
        fault = 0;
        if (water == null || hour < 0 || hour >= water.winds().length) {
            return -2;
        }
        int no = refusal(k, lane, i, n, true);
        if (no != 0) {
            return no;
        }
        int set = 0;
        for (int v = 0; v < 3; v++) {
            int[] winds = water.winds().clone();
            winds[hour] = v;
            set += isAsRead(water, winds) ? 1 << v : 0;
        }
        return set;
    }

    private Water withCraft(int b, Craft craft) {
        Craft[] crafts = water.crafts().clone();
        crafts[b] = craft;
        return new Water(water.wide(), water.isles(), water.winds(), crafts);
    }

    int kinds(int b, int k, int lane, int i, int n) {
        fault = 0;
        if (!isBoat(b)) {
            return -1;
        }
        int no = refusal(k, lane, i, n, true);
        if (no != 0) {
            return no;
        }
        int set = 0;
        Craft is = water.crafts()[b];
        for (int kind = 0; kind < 3; kind++) {
            set += isAsRead(withCraft(b, new Craft(kind, is.from(), is.fast())), water.winds()) ? 1 << kind : 0;
        }
        return set;
    }

    int speeds(int b, int k, int lane, int i, int n) {
        fault = 0;
        if (!isBoat(b)) {
            return -1;
        }
        int no = refusal(k, lane, i, n, true);
        if (no != 0) {
            return no;
        }
        int set = 0;
        Craft is = water.crafts()[b];
        for (int fast = 1; fast < 4; fast++) {
            set += isAsRead(withCraft(b, new Craft(is.kind(), is.from(), fast)), water.winds()) ? 1 << fast : 0;
        }
        return set;
    }

    long odds(int k, int lane, int i, int n, int which) {
        if (refusal(k, lane, i, n, which == 0 || which == 1) != 0) {
            return Long.MIN_VALUE;
        }
        int free = 0;
        for (int chance = 0; chance < 1 << n; chance++) {
            int[] cells = starts(water);
            int fined = 0;
            for (int h = 0; h < n; h++) {
                fined += finedIn(water, cells, orders[h], 1 + (chance >> h & 1));
            }
            free += fined == 0 ? 1 : 0;
        }
        int common = java.math.BigInteger.valueOf(free).gcd(java.math.BigInteger.valueOf(1 << n)).intValue();
        return which == 0 ? free / common : (1 << n) / common;
    }

    int sheet(int k, int lane, int n) {
        fault = 0;
        if (k < 0 || k > 3) {
            return -1;
        }
        if (lane < 0 || lane > 2 || n > 60) {
            return -2;
        }
        try {
            sheets[k] = lane == 0 ? new byte[n] : lane == 1 ? new short[n] : new int[n];
        } catch (NegativeArraySizeException e) {
            return faulted(e);
        }
        return 1;
    }

    int lose(int k) {
        if (k < 0 || k > 3) {
            return -1;
        }
        boolean had = sheets[k] != null;
        sheets[k] = null;
        return had ? 1 : 0;
    }

    int put(int k, int i, int v) {
        fault = 0;
        if (k < 0 || k > 3) {
            return -1;
        }
        try {
            switch (laneOf(k)) {
                case 0 -> ((byte[]) sheets[k])[i] = (byte) v;
                case 1 -> ((short[]) sheets[k])[i] = (short) v;
                default -> ((int[]) sheets[k])[i] = v;
            }
        } catch (RuntimeException e) {
            return faulted(e);
        }
        return 1;
    }

    long cell(int k, int i, int lane) {
        fault = 0;
        if (k < 0 || k > 3 || lane < 0 || lane > 2) {
            return Long.MIN_VALUE;
        }
        try {
            return switch (lane) {
                case 0 -> ((byte[]) sheets[k])[i];
                case 1 -> ((short[]) sheets[k])[i];
                default -> ((int[]) sheets[k])[i];
            };
        } catch (RuntimeException e) {
            faulted(e);
            return Long.MIN_VALUE;
        }
    }

    int copy(int k, int i, int other, int j, int n) {
        fault = 0;
        if (k < 0 || k > 3 || other < 0 || other > 3) {
            return -1;
        }
        try {
            System.arraycopy(sheets[k], i, sheets[other], j, n);
        } catch (RuntimeException e) {
            return faulted(e);
        }
        return n;
    }

    private void leave(int... bodies) {
        for (int body : bodies) {
            trace = trace * 31 + body;
        }
    }

    int tell(int b) {
        if (!isBoat(b)) {
            return -1;
        }
        Craft craft = water.crafts()[b];
        switch (craft.kind()) {
            case 0 -> leave(1);
            case 1 -> leave(2, 1);
            default -> leave(3, 2, 1, 1);
        }
        return craft.kind() == 0 ? craft.fast() : craft.kind() == 1 ? craft.fast() + 100 : 2 * craft.fast() + 100;
    }

    int hail(int b) {
        if (!isBoat(b)) {
            return -1;
        }
        boolean isTowed = water.crafts()[b].kind() == 2;
        leave(isTowed ? 5 : 4);
        return isTowed ? 70 : b;
    }

    int as(int b, int kind) {
        fault = 0;
        if (!isBoat(b)) {
            return -1;
        }
        if (kind < 0 || kind > 2) {
            return -2;
        }
        if (water.crafts()[b].kind() < kind) {
            fault = 2;
            return -12;
        }
        return 1;
    }

    int trace() {
        return trace;
    }

    int fault() {
        return fault;
    }

    int many(int what) {
        if (what < 0 || what > 3) {
            return -2;
        }
        if (water == null) {
            return 0;
        }
        return switch (what) {
            case 0 -> water.crafts().length;
            case 1 -> water.wide();
            case 2 -> water.winds().length;
            default -> readings.size();
        };
    }
}
