import java.util.Arrays;

/**
 * A lake that boats cross, singly by the wind; ../shared/DOC.md tells what each call promises.
 */
public final class LakeWind {
    public static final int UNKNOWN = -1, OUTSIDE = -2, STATE = -3, FULL = -4, NONE = -9;
    public static final long LOST = Long.MIN_VALUE;

    private static final int NULL_FAULT = 1, CAST_FAULT = 2, INDEX_FAULT = 3, SIZE_FAULT = 4;
    private static final int FAULT_BASE = -10, TEXT_BASE = -100;
    private static final int SHEETS = 4, LANES = 3, MOST_CELLS = 60;
    private static final int MOST_HOURS = 10, MOST_BOATS = 3, MOST_READINGS = 8;
    private static final int MOST_STATES = 125;
    private static final int CALM = 0, UP = 1, DOWN = 2, WINDS = 3;
    private static final int KINDS = 3, LEAST_FAST = 1, MOST_FAST = 3;
    private static final int ASK_OVER = 0, ASK_FINES = 1, ASK_FIRST_FINE = 2, ASK_ALL_OVER = 3, ASK_CELL = 10;

    private final Sheet[] sheets = new Sheet[SHEETS];
    private final Text text = new Text();
    private final Readings readings = new Readings();
    private final Voyage voyage = new Voyage();
    private final Search search = new Search();
    private final Trace marks = new Trace();
    private final int[] orders = new int[MOST_HOURS];
    private int[] ways = new int[MOST_STATES];
    private int[] nextWays = new int[MOST_STATES];
    private Lake water = new Lake();
    private Lake spareWater = new Lake();
    private int lastFault = 0;

    public LakeWind() {
        for (int k = 0; k < SHEETS; k++) {
            sheets[k] = new Sheet();
        }
    }

    // ---- 1 the lake

    public int lake(int sheet, int lane, int i, int n) {
        lastFault = 0;
        if (!isSheet(sheet)) {
            return UNKNOWN;
        }
        if (!isLane(lane)) {
            return OUTSIDE;
        }
        Sheet row = sheets[sheet];
        int found = faultOfText(row, lane, i, n);
        if (found != 0) {
            return faulted(found);
        }
        text.begin(row.cells, i, n);
        spareWater.drain();
        if (!text.readWater(spareWater) || !text.readWinds(spareWater) || !text.readBoats(spareWater)) {
            return TEXT_BASE - text.at;
        }
        takeSpareWater();
        return water.boats;
    }

    private static int faultOfText(Sheet row, int lane, int i, int n) {
        int found = row.faultAs(lane);
        if (found != 0) {
            return found;
        }
        if (n < 0) {
            return SIZE_FAULT;
        }
        return row.holds(i, n) ? 0 : INDEX_FAULT;
    }

    // A text is read into the spare, so that one with a fault leaves the lake that there is.
    private void takeSpareWater() {
        Lake old = water;
        water = spareWater;
        spareWater = old;
        readings.count = 0;
        search.isStale = true;
    }

    public int ofBoat(int b, int what) {
        if (!isBoat(b)) {
            return UNKNOWN;
        }
        Boat boat = water.fleet[b];
        switch (what) {
            case 0:
                return boat.kindNumber();
            case 1:
                return boat.from;
            case 2:
                return boat.fast;
            case 3:
                return boat.goesAgainst();
            default:
                return OUTSIDE;
        }
    }

    public int wind(int hour, int v) {
        if (!water.isThere()) {
            return STATE;
        }
        if (!isHour(hour) || v < 0 || v >= WINDS) {
            return OUTSIDE;
        }
        int was = water.windOf[hour];
        water.windOf[hour] = v;
        return was;
    }

    public int isle(int c, boolean is) {
        if (!water.isThere()) {
            return STATE;
        }
        if (c <= 0 || c >= water.wide) {
            return OUTSIDE;
        }
        if (water.hasIsle(c) == is) {
            return 0;
        }
        water.isles ^= 1 << c;
        search.isStale = true;
        return 1;
    }

    // ---- 2 plans

    public int plan(int sheet, int lane, int i, int n, int what) {
        lastFault = 0;
        int no = refusalOfRow(sheet, lane, n);
        if (no != 0) {
            return no;
        }
        if (!isQuestion(what)) {
            return OUTSIDE;
        }
        no = takeOrders(sheet, lane, i, n);
        if (no != 0) {
            return no;
        }
        voyage.sailAll(water, orders, n);
        return answerOfVoyage(what);
    }

    private static boolean isQuestion(int what) {
        return what >= ASK_OVER && what <= ASK_ALL_OVER || what >= ASK_CELL && what < ASK_CELL + MOST_BOATS;
    }

    private int answerOfVoyage(int what) {
        switch (what) {
            case ASK_OVER:
                return voyage.overSet(water);
            case ASK_FINES:
                return voyage.fines;
            case ASK_FIRST_FINE:
                return voyage.firstFine;
            case ASK_ALL_OVER:
                return voyage.allOver;
            default:
                return isBoat(what - ASK_CELL) ? voyage.cells[what - ASK_CELL] : NONE;
        }
    }

    private int refusalOfRow(int sheet, int lane, int n) {
        if (!isSheet(sheet)) {
            return UNKNOWN;
        }
        return isLane(lane) && n >= 0 && n <= MOST_HOURS ? 0 : OUTSIDE;
    }

    // What all calls by a plan have in common; only behind refusalOfRow.
    private int takeOrders(int sheet, int lane, int i, int n) {
        Sheet row = sheets[sheet];
        int found = row.faultAs(lane);
        if (found == 0 && !row.holds(i, n)) {
            found = INDEX_FAULT;
        }
        if (found != 0) {
            return faulted(found);
        }
        if (!water.isThere()) {
            return STATE;
        }
        if (n > water.hours) {
            return OUTSIDE;
        }
        for (int h = 0; h < n; h++) {
            if (!isSet(row.cells[i + h])) {
                return OUTSIDE;
            }
            orders[h] = row.cells[i + h];
        }
        return 0;
    }

    // ---- 3 the soonest, hats

    public int soonest(int set) {
        if (!water.isThere()) {
            return STATE;
        }
        return isSet(set) ? search.fewestHours(water, set) : OUTSIDE;
    }

    public int hats(int set, int n) {
        if (!water.isThere()) {
            return STATE;
        }
        if (!isSet(set) || n < 0 || n > MOST_HOURS) {
            return OUTSIDE;
        }
        return search.fewestHats(water, set, Math.min(n, water.hours));
    }

    public int rid(int b) {
        if (!isBoat(b)) {
            return UNKNOWN;
        }
        int withIt = search.fewestHours(water, water.allBoats());
        if (withIt == NONE) {
            return NONE;
        }
        return withIt - search.fewestHours(water, water.allBoats() & ~(1 << b));
    }

    // ---- 4 where boats were

    public int reading(int b, int hour, int c) {
        if (!isBoat(b)) {
            return UNKNOWN;
        }
        if (hour < 0 || hour >= MOST_HOURS || c < 0 || c > water.wide) {
            return OUTSIDE;
        }
        return readings.add(b, hour, c);
    }

    public int back(int k) {
        if (k < 0 || k > readings.count) {
            return OUTSIDE;
        }
        readings.count -= k;
        return readings.count;
    }

    public int winds(int hour, int sheet, int lane, int i, int n) {
        lastFault = 0;
        if (!isHour(hour)) {
            return OUTSIDE;
        }
        int no = refusalOfRow(sheet, lane, n);
        if (no == 0) {
            no = takeOrders(sheet, lane, i, n);
        }
        if (no != 0) {
            return no;
        }
        int was = water.windOf[hour];
        int set = 0;
        for (int v = 0; v < WINDS; v++) {
            water.windOf[hour] = v;
            set |= bitIfAsRead(v, n);
        }
        water.windOf[hour] = was;
        return set;
    }

    public int kinds(int b, int sheet, int lane, int i, int n) {
        int no = refusalOfBoatPlan(b, sheet, lane, i, n);
        if (no != 0) {
            return no;
        }
        Boat was = water.fleet[b];
        int set = 0;
        for (int kind = 0; kind < KINDS; kind++) {
            water.fleet[b] = newBoat(kind, b, was.from, was.fast);
            set |= bitIfAsRead(kind, n);
        }
        water.fleet[b] = was;
        return set;
    }

    public int speeds(int b, int sheet, int lane, int i, int n) {
        int no = refusalOfBoatPlan(b, sheet, lane, i, n);
        if (no != 0) {
            return no;
        }
        Boat was = water.fleet[b];
        int set = 0;
        for (int fast = LEAST_FAST; fast <= MOST_FAST; fast++) {
            water.fleet[b] = newBoat(was.kindNumber(), b, was.from, fast);
            set |= bitIfAsRead(fast, n);
        }
        water.fleet[b] = was;
        return set;
    }

    private int refusalOfBoatPlan(int b, int sheet, int lane, int i, int n) {
        lastFault = 0;
        if (!isBoat(b)) {
            return UNKNOWN;
        }
        int no = refusalOfRow(sheet, lane, n);
        return no != 0 ? no : takeOrders(sheet, lane, i, n);
    }

    private int bitIfAsRead(int k, int n) {
        if (!readings.areWithin(n)) {
            return 0;
        }
        voyage.begin(water);
        for (int h = 0; h < n; h++) {
            voyage.sail(water, orders[h], water.windOf[h]);
            if (!readings.areSo(h, voyage.cells)) {
                return 0;
            }
        }
        return 1 << k;
    }

    public long odds(int sheet, int lane, int i, int n, int which) {
        lastFault = 0;
        if (refusalOfRow(sheet, lane, n) != 0 || which < 0 || which > 1) {
            return LOST;
        }
        if (takeOrders(sheet, lane, i, n) != 0) {
            return LOST;
        }
        int upper = waysWithoutFine(n);
        int lower = 1 << n;
        for (int k = 0; k < n; k++) {
            if (upper % 2 == 0) {
                upper /= 2;
                lower /= 2;
            }
        }
        return which == 0 ? upper : lower;
    }

    // Winds that lead to the same cells are counted together: there are far fewer cells than winds.
    private int waysWithoutFine(int n) {
        int states = water.states();
        Arrays.fill(ways, 0);
        voyage.begin(water);
        ways[voyage.stateNumber(water)] = 1;
        for (int h = 0; h < n; h++) {
            Arrays.fill(nextWays, 0);
            for (int s = 0; s < states; s++) {
                if (ways[s] > 0) {
                    sailByChance(s, orders[h]);
                }
            }
            int[] old = ways;
            ways = nextWays;
            nextWays = old;
        }
        int sum = 0;
        for (int s = 0; s < states; s++) {
            sum += ways[s];
        }
        return sum;
    }

    private void sailByChance(int s, int order) {
        for (int v = UP; v <= DOWN; v++) {
            voyage.place(water, s);
            if (voyage.sail(water, order, v) == 0) {
                nextWays[voyage.stateNumber(water)] += ways[s];
            }
        }
    }

    // ---- 5 sheets, parts

    public int sheet(int k, int lane, int n) {
        lastFault = 0;
        if (!isSheet(k)) {
            return UNKNOWN;
        }
        if (!isLane(lane) || n > MOST_CELLS) {
            return OUTSIDE;
        }
        if (n < 0) {
            return faulted(SIZE_FAULT);
        }
        sheets[k].renew(lane, n);
        return 1;
    }

    public int lose(int k) {
        if (!isSheet(k)) {
            return UNKNOWN;
        }
        if (!sheets[k].hasRow()) {
            return 0;
        }
        sheets[k].lane = Sheet.NOTHING;
        return 1;
    }

    public int put(int k, int i, int v) {
        lastFault = 0;
        if (!isSheet(k)) {
            return UNKNOWN;
        }
        Sheet row = sheets[k];
        if (!row.hasRow()) {
            return faulted(NULL_FAULT);
        }
        if (!row.holds(i, 1)) {
            return faulted(INDEX_FAULT);
        }
        row.cells[i] = row.cut(v);
        return 1;
    }

    public long cell(int k, int i, int lane) {
        lastFault = 0;
        if (!isSheet(k) || !isLane(lane)) {
            return LOST;
        }
        Sheet row = sheets[k];
        int found = row.faultAs(lane);
        if (found == 0 && !row.holds(i, 1)) {
            found = INDEX_FAULT;
        }
        if (found != 0) {
            lastFault = found;
            return LOST;
        }
        return row.cells[i];
    }

    public int copy(int k, int i, int other, int j, int n) {
        lastFault = 0;
        if (!isSheet(k) || !isSheet(other)) {
            return UNKNOWN;
        }
        Sheet source = sheets[k];
        Sheet target = sheets[other];
        if (!source.hasRow() || !target.hasRow()) {
            return faulted(NULL_FAULT);
        }
        if (source.lane != target.lane) {
            return faulted(CAST_FAULT);
        }
        if (!source.holds(i, n) || !target.holds(j, n)) {
            return faulted(INDEX_FAULT);
        }
        System.arraycopy(source.cells, i, target.cells, j, n);
        return n;
    }

    public int tell(int b) {
        return isBoat(b) ? water.fleet[b].telling(marks) : UNKNOWN;
    }

    public int hail(int b) {
        return isBoat(b) ? water.fleet[b].hailing(marks) : UNKNOWN;
    }

    public int as(int b, int kind) {
        lastFault = 0;
        if (!isBoat(b)) {
            return UNKNOWN;
        }
        if (kind < 0 || kind >= KINDS) {
            return OUTSIDE;
        }
        return isOfKind(water.fleet[b], kind) ? 1 : faulted(CAST_FAULT);
    }

    private static boolean isOfKind(Boat boat, int kind) {
        switch (kind) {
            case 1:
                return boat instanceof Oared;
            case 2:
                return boat instanceof Towed;
            default:
                return true;
        }
    }

    public int trace() {
        return marks.value;
    }

    public int fault() {
        return lastFault;
    }

    public int many(int what) {
        switch (what) {
            case 0:
                return water.boats;
            case 1:
                return water.wide;
            case 2:
                return water.hours;
            case 3:
                return readings.count;
            default:
                return OUTSIDE;
        }
    }

    // ---- what calls have in common

    private int faulted(int which) {
        lastFault = which;
        return FAULT_BASE - which;
    }

    private static boolean isSheet(int k) {
        return k >= 0 && k < SHEETS;
    }

    private static boolean isLane(int lane) {
        return lane >= 0 && lane < LANES;
    }

    private boolean isBoat(int b) {
        return b >= 0 && b < water.boats;
    }

    private boolean isHour(int hour) {
        return hour >= 0 && hour < water.hours;
    }

    private boolean isSet(int set) {
        return set >= 0 && set <= water.allBoats();
    }

    private static Boat newBoat(int kind, int number, int from, int fast) {
        switch (kind) {
            case 1:
                return new Oared(number, from, fast);
            case 2:
                return new Towed(number, from, fast);
            default:
                return new Boat(number, from, fast);
        }
    }

    // ---- the parts

    /** What bodies leave as they begin. */
    private static final class Trace {
        int value = 0;

        void leave(int body) {
            value = 31 * value + body;
        }
    }

    private static class Boat {
        final int number;
        final int from;
        final int fast;

        Boat(int number, int from, int fast) {
            this.number = number;
            this.from = from;
            this.fast = fast;
        }

        int kindNumber() {
            return 0;
        }

        int goesAgainst() {
            return fast;
        }

        boolean counts() {
            return true;
        }

        int telling(Trace marks) {
            return tellingOfBoat(marks);
        }

        // A name of its own, as a towed boat's telling comes to it past the oared one's.
        final int tellingOfBoat(Trace marks) {
            marks.leave(1);
            return fast;
        }

        int hailing(Trace marks) {
            marks.leave(4);
            return number;
        }
    }

    private static class Oared extends Boat {
        Oared(int number, int from, int fast) {
            super(number, from, fast);
        }

        int kindNumber() {
            return 1;
        }

        int goesAgainst() {
            return fast + 1;
        }

        int telling(Trace marks) {
            marks.leave(2);
            return super.telling(marks) + 100;
        }
    }

    private static final class Towed extends Oared {
        Towed(int number, int from, int fast) {
            super(number, from, fast);
        }

        int kindNumber() {
            return 2;
        }

        int goesAgainst() {
            return fast;
        }

        boolean counts() {
            return false;
        }

        int telling(Trace marks) {
            marks.leave(3);
            int asOared = super.telling(marks);
            return asOared + tellingOfBoat(marks);
        }

        int hailing(Trace marks) {
            marks.leave(5);
            return 70;
        }
    }

    private static final class Lake {
        int wide = 0;
        int isles = 0;
        int hours = 0;
        int boats = 0;
        final int[] windOf = new int[MOST_HOURS];
        final Boat[] fleet = new Boat[MOST_BOATS];

        // Places without a boat hold one that nobody asks for, so that no place is null.
        Lake() {
            for (int b = 0; b < MOST_BOATS; b++) {
                fleet[b] = new Boat(b, 0, LEAST_FAST);
            }
        }

        void drain() {
            wide = 0;
            isles = 0;
            hours = 0;
            boats = 0;
        }

        boolean isThere() {
            return boats > 0;
        }

        int allBoats() {
            return (1 << boats) - 1;
        }

        boolean hasIsle(int c) {
            return (isles >> c & 1) == 1;
        }

        int startOf(Boat boat) {
            return boat.from == 0 ? 0 : wide;
        }

        int goalOf(Boat boat) {
            return boat.from == 0 ? wide : 0;
        }

        boolean isWith(Boat boat, int wind) {
            return wind == (boat.from == 0 ? UP : DOWN);
        }

        boolean countsWith(Boat boat, int wind) {
            return boat.counts() && isWith(boat, wind);
        }

        int cellAfter(Boat boat, int c, int wind, boolean goes) {
            if (wind == CALM || c == goalOf(boat)) {
                return c;
            }
            if (goes) {
                int cells = isWith(boat, wind) ? boat.fast : boat.goesAgainst();
                return boat.from == 0 ? Math.min(wide, c + cells) : Math.max(0, c - cells);
            }
            if (c == 0 || c == wide || hasIsle(c)) {
                return c;
            }
            return wind == UP ? c + 1 : c - 1;
        }

        /** In how many ways boats can be in cells: each way has a number below it. */
        int states() {
            int all = 1;
            for (int b = 0; b < boats; b++) {
                all *= wide + 1;
            }
            return all;
        }
    }

    /** Reads a text into a lake, up to the first fault: at is the place of it then. */
    private static final class Text {
        int at = 0;
        private int[] codes = new int[0];
        private int first = 0;
        private int end = 0;

        void begin(int[] cells, int i, int n) {
            codes = cells;
            first = i;
            at = 0;
            end = n;
        }

        boolean readWater(Lake into) {
            if (!skip('w')) {
                return false;
            }
            int wide = digit(2, 4);
            if (wide < 0) {
                return false;
            }
            into.wide = wide;
            for (int c = 1; c < wide; c++) {
                int isle = digit(0, 1);
                if (isle < 0) {
                    return false;
                }
                into.isles |= isle << c;
            }
            return skip(';');
        }

        boolean readWinds(Lake into) {
            for (int h = 0; h < MOST_HOURS; h++) {
                int wind = windSign();
                if (wind < 0) {
                    return h > 0;
                }
                into.windOf[h] = wind;
                into.hours = h + 1;
            }
            return true;
        }

        boolean readBoats(Lake into) {
            for (int b = 0; b < MOST_BOATS; b++) {
                if (b > 0 && at == end) {
                    return true;
                }
                if (!readBoat(into, b)) {
                    return false;
                }
                into.boats = b + 1;
            }
            return at == end;
        }

        private boolean readBoat(Lake into, int b) {
            if (!skip(',')) {
                return false;
            }
            int kind = kindLetter();
            if (kind < 0) {
                return false;
            }
            int from = digit(0, 1);
            if (from < 0) {
                return false;
            }
            int fast = digit(LEAST_FAST, MOST_FAST);
            if (fast < 0) {
                return false;
            }
            into.fleet[b] = newBoat(kind, b, from, fast);
            return true;
        }

        private boolean isNext(int code) {
            return at < end && codes[first + at] == code;
        }

        private boolean skip(int code) {
            if (!isNext(code)) {
                return false;
            }
            at++;
            return true;
        }

        private int digit(int least, int most) {
            for (int d = least; d <= most; d++) {
                if (skip('0' + d)) {
                    return d;
                }
            }
            return -1;
        }

        private int windSign() {
            if (skip('>')) {
                return UP;
            }
            if (skip('<')) {
                return DOWN;
            }
            return skip('.') ? CALM : -1;
        }

        private int kindLetter() {
            if (skip('b')) {
                return 0;
            }
            if (skip('o')) {
                return 1;
            }
            return skip('t') ? 2 : -1;
        }
    }

    /** Nothing, or a row; its cells are made once and used again by each new row. */
    private static final class Sheet {
        static final int NOTHING = -1;

        int lane = NOTHING;
        int size = 0;
        final int[] cells = new int[MOST_CELLS];

        boolean hasRow() {
            return lane != NOTHING;
        }

        void renew(int newLane, int n) {
            lane = newLane;
            size = n;
            Arrays.fill(cells, 0);
        }

        int faultAs(int wanted) {
            if (!hasRow()) {
                return NULL_FAULT;
            }
            return lane == wanted ? 0 : CAST_FAULT;
        }

        // By size - i, as i + n might wrap.
        boolean holds(int i, int n) {
            return n >= 0 && i >= 0 && i <= size && n <= size - i;
        }

        int cut(int v) {
            switch (lane) {
                case 0:
                    return (byte) v;
                case 1:
                    return (short) v;
                default:
                    return v;
            }
        }
    }

    private static final class Readings {
        int count = 0;
        private final int[] boatOf = new int[MOST_READINGS];
        private final int[] hourOf = new int[MOST_READINGS];
        private final int[] cellOf = new int[MOST_READINGS];

        int add(int b, int hour, int c) {
            if (count >= MOST_READINGS) {
                return FULL;
            }
            boatOf[count] = b;
            hourOf[count] = hour;
            cellOf[count] = c;
            count++;
            return count - 1;
        }

        boolean areWithin(int hours) {
            for (int r = 0; r < count; r++) {
                if (hourOf[r] >= hours) {
                    return false;
                }
            }
            return true;
        }

        boolean areSo(int hour, int[] cells) {
            for (int r = 0; r < count; r++) {
                if (hourOf[r] == hour && cells[boatOf[r]] != cellOf[r]) {
                    return false;
                }
            }
            return true;
        }
    }

    /** Where boats are, and what became of a plan. */
    private static final class Voyage {
        final int[] cells = new int[MOST_BOATS];
        int fines = 0;
        int firstFine = NONE;
        int allOver = NONE;

        void begin(Lake lake) {
            for (int b = 0; b < lake.boats; b++) {
                cells[b] = lake.startOf(lake.fleet[b]);
            }
        }

        /** An hour: how many are fined in it. */
        int sail(Lake lake, int order, int wind) {
            int counted = 0;
            for (int b = 0; b < lake.boats; b++) {
                Boat boat = lake.fleet[b];
                boolean goes = (order >> b & 1) == 1 && cells[b] != lake.goalOf(boat);
                if (goes && lake.countsWith(boat, wind)) {
                    counted++;
                }
                cells[b] = lake.cellAfter(boat, cells[b], wind, goes);
            }
            return counted > 1 ? counted : 0;
        }

        void sailAll(Lake lake, int[] orders, int n) {
            fines = 0;
            firstFine = NONE;
            allOver = NONE;
            begin(lake);
            for (int h = 0; h < n; h++) {
                int fined = sail(lake, orders[h], lake.windOf[h]);
                fines += fined;
                if (fined > 0 && firstFine == NONE) {
                    firstFine = h;
                }
                if (allOver == NONE && overSet(lake) == lake.allBoats()) {
                    allOver = h;
                }
            }
        }

        int overSet(Lake lake) {
            int set = 0;
            for (int b = 0; b < lake.boats; b++) {
                if (cells[b] == lake.goalOf(lake.fleet[b])) {
                    set |= 1 << b;
                }
            }
            return set;
        }

        int stateNumber(Lake lake) {
            int number = 0;
            for (int b = lake.boats - 1; b >= 0; b--) {
                number = number * (lake.wide + 1) + cells[b];
            }
            return number;
        }

        void place(Lake lake, int number) {
            int rest = number;
            for (int b = 0; b < lake.boats; b++) {
                cells[b] = rest % (lake.wide + 1);
                rest /= lake.wide + 1;
            }
        }
    }

    /** A set of states, as bits: two longs hold the 125 that there can be. */
    private static final class States {
        long low = 0L;
        long high = 0L;

        void clear() {
            low = 0L;
            high = 0L;
        }

        void become(States other) {
            low = other.low;
            high = other.high;
        }

        void add(int s) {
            if (s < 64) {
                low |= 1L << s;
            } else {
                high |= 1L << (s - 64);
            }
        }

        void addAll(long otherLow, long otherHigh) {
            low |= otherLow;
            high |= otherHigh;
        }

        boolean has(int s) {
            return ((s < 64 ? low >>> s : high >>> (s - 64)) & 1L) == 1L;
        }

        boolean meets(long otherLow, long otherHigh) {
            return ((low & otherLow) | (high & otherHigh)) != 0L;
        }
    }

    /** The soonest and hats, by all states that plans without a fine can come to. */
    private static final class Search {
        boolean isStale = true;
        private int states = 0;
        private int start = 0;
        private final long[] lowAfter = new long[2 * MOST_STATES];
        private final long[] highAfter = new long[2 * MOST_STATES];
        private final int[] overIn = new int[MOST_STATES];
        private final int[] ends = new int[1 << MOST_BOATS];
        private final int[] counted = new int[1 << MOST_BOATS];
        private final Voyage spot = new Voyage();
        private final States now = new States();
        private final States next = new States();
        private final States[] good = new States[MOST_HOURS + 1];
        private final States[] hatted = new States[MOST_HOURS];

        Search() {
            for (int h = 0; h < MOST_HOURS; h++) {
                good[h] = new States();
                hatted[h] = new States();
            }
            good[MOST_HOURS] = new States();
        }

        int fewestHours(Lake lake, int set) {
            prepare(lake);
            startNow();
            for (int h = 0; h < lake.hours; h++) {
                if (isOverInSome(now, set)) {
                    return h;
                }
                advance(now, lake.windOf[h]);
            }
            return isOverInSome(now, set) ? lake.hours : NONE;
        }

        int fewestHats(Lake lake, int set, int n) {
            prepare(lake);
            fillGood(lake, set, n);
            if (good[0].has(start)) {
                return 0;
            }
            int one = leastHat(lake, n);
            return one != NONE ? one : leastTwoHats(lake, n);
        }

        private int leastHat(Lake lake, int n) {
            startNow();
            for (int h = 0; h < n; h++) {
                throwHat(now, lake.windOf[h], next);
                if (next.meets(good[h + 1].low, good[h + 1].high)) {
                    return 1 << h;
                }
                advance(now, lake.windOf[h]);
            }
            return NONE;
        }

        // By the later hour first: of sets of two hours the one with the lower later hour is less.
        private int leastTwoHats(Lake lake, int n) {
            startNow();
            for (int h = 0; h < n; h++) {
                int wind = lake.windOf[h];
                for (int early = 0; early < h; early++) {
                    throwHat(hatted[early], wind, next);
                    if (next.meets(good[h + 1].low, good[h + 1].high)) {
                        return 1 << h | 1 << early;
                    }
                    advance(hatted[early], wind);
                }
                throwHat(now, wind, hatted[h]);
                advance(now, wind);
            }
            return NONE;
        }

        private void startNow() {
            now.clear();
            now.add(start);
        }

        private boolean isOverInSome(States some, int set) {
            for (int s = 0; s < states; s++) {
                if ((overIn[s] & set) == set && some.has(s)) {
                    return true;
                }
            }
            return false;
        }

        /** From which states, ahead of each hour, the set is over behind hour n by the winds as they are. */
        private void fillGood(Lake lake, int set, int n) {
            good[n].clear();
            for (int s = 0; s < states; s++) {
                if ((overIn[s] & set) == set) {
                    good[n].add(s);
                }
            }
            for (int h = n - 1; h >= 0; h--) {
                fillGoodAhead(good[h], lake.windOf[h], good[h + 1]);
            }
        }

        private void fillGoodAhead(States ahead, int wind, States behind) {
            if (wind == CALM) {
                ahead.become(behind);
                return;
            }
            ahead.clear();
            int row = rowOf(wind);
            for (int s = 0; s < states; s++) {
                if (behind.meets(lowAfter[row + s], highAfter[row + s])) {
                    ahead.add(s);
                }
            }
        }

        private void advance(States some, int wind) {
            next.clear();
            addAfter(some, wind, next);
            some.become(next);
        }

        private void throwHat(States some, int wind, States into) {
            into.clear();
            for (int other = 0; other < WINDS; other++) {
                if (other != wind) {
                    addAfter(some, other, into);
                }
            }
        }

        private void addAfter(States some, int wind, States into) {
            if (wind == CALM) {
                into.addAll(some.low, some.high);
                return;
            }
            int row = rowOf(wind);
            for (int s = 0; s < states; s++) {
                if (some.has(s)) {
                    into.addAll(lowAfter[row + s], highAfter[row + s]);
                }
            }
        }

        private static int rowOf(int wind) {
            return wind == DOWN ? MOST_STATES : 0;
        }

        // What follows a state is kept until isles or boats change: hats ask for it again and again.
        private void prepare(Lake lake) {
            if (!isStale) {
                return;
            }
            isStale = false;
            states = lake.states();
            spot.begin(lake);
            start = spot.stateNumber(lake);
            for (int s = 0; s < states; s++) {
                spot.place(lake, s);
                overIn[s] = spot.overSet(lake);
                fillAfter(lake, s, UP);
                fillAfter(lake, s, DOWN);
            }
        }

        private void fillAfter(Lake lake, int s, int wind) {
            int found = findEnds(lake, wind);
            next.clear();
            for (int k = 0; k < found; k++) {
                next.add(ends[k]);
            }
            lowAfter[rowOf(wind) + s] = next.low;
            highAfter[rowOf(wind) + s] = next.high;
        }

        /** All states behind an hour from the cells of spot, by any order by which nobody is fined: how many. */
        private int findEnds(Lake lake, int wind) {
            ends[0] = 0;
            counted[0] = 0;
            int found = 1;
            int weight = 1;
            for (int b = 0; b < lake.boats; b++) {
                Boat boat = lake.fleet[b];
                int c = spot.cells[b];
                boolean mayGo = c != lake.goalOf(boat);
                int count = lake.countsWith(boat, wind) ? 1 : 0;
                int stays = weight * lake.cellAfter(boat, c, wind, false);
                int goes = weight * lake.cellAfter(boat, c, wind, true);
                int before = found;
                for (int k = 0; k < before; k++) {
                    if (mayGo && counted[k] + count <= 1) {
                        ends[found] = ends[k] + goes;
                        counted[found] = counted[k] + count;
                        found++;
                    }
                    ends[k] += stays;
                }
                weight *= lake.wide + 1;
            }
            return found;
        }
    }
}
