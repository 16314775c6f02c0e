import java.util.ArrayList;
import java.util.List;
import java.util.stream.Stream;

/**
 * Every call with every choice of numbers at the edges that the document names, next to them and as far off as can
 * be, on objects in several states: the answer, fault() and what is seen behind it are those of the plain twin.
 */
public final class EdgeSweepTest extends Hand {
    private static final String SHEET = "-1 0 1 2 3 4 MOST";
    private static final String LANE = "LEAST -1 0 1 2 3";
    private static final String PLACE = "LEAST -1 0 1 6 7 8 MOST";
    private static final String TEXT_PLACE = "LEAST -1 0 1 23 24 25 59 60 61 MOST";
    private static final String HOURS = "LEAST -1 0 1 5 6 7 9 10 11 MOST";
    private static final String BOAT = "LEAST -1 0 1 2 3 MOST";
    private static final String HOUR = "LEAST -1 0 1 5 6 9 10 MOST";
    private static final String SET = "LEAST -1 0 1 2 3 6 7 8 MOST";
    private static final String LENGTH = "LEAST -1 0 1 9 23 24 59 60 61 MOST";
    private static final String VALUE = "LEAST -129 -1 0 7 8 119 128 256 32768 MOST";
    private static final String FEW = "LEAST -1 0 1 2 3 4 5 MOST";

    /** Calls that leave all as it is, and those that may change it, behind which the object is made anew. */
    private static final String[][] ASKING = {
        {"ofBoat", BOAT, FEW}, {"plan", SHEET, LANE, PLACE, HOURS, "LEAST -1 0 1 2 3 4 9 10 11 12 13 MOST"}, {"soonest", SET},
        {"hats", SET, HOURS}, {"rid", BOAT}, {"winds", HOUR, SHEET, LANE, PLACE, HOURS}, {"kinds", BOAT, SHEET, LANE, PLACE, HOURS},
        {"speeds", BOAT, SHEET, LANE, PLACE, HOURS}, {"odds", SHEET, LANE, PLACE, HOURS, "LEAST -1 0 1 2 MOST"},
        {"cell", SHEET, PLACE, LANE}, {"as", BOAT, FEW}, {"trace"}, {"fault"}, {"many", FEW},
    };
    private static final String[][] CHANGING = {
        {"lake", SHEET, LANE, TEXT_PLACE, LENGTH}, {"wind", HOUR, FEW}, {"isle", FEW, "true false"}, {"reading", BOAT, HOUR, FEW},
        {"back", "LEAST -1 0 1 2 3 7 8 9 MOST"}, {"sheet", SHEET, LANE, LENGTH}, {"lose", SHEET}, {"put", SHEET, PLACE, VALUE},
        {"copy", "-1 0 1 3 4", "-1 0 1 7 8 MOST", "-1 0 1 2 3 4", "-1 0 1 7 8 MOST", "LEAST -1 0 1 6 7 8 MOST"}, {"tell", BOAT}, {"hail", BOAT},
    };
    private static final Call FAULT = new Call("fault()");
    private static final Call[] SEEN = callsOf("fault()", "many(0)", "many(1)", "many(2)", "many(3)", "trace()", "plan(1, 2, 0, 1, 10)",
        "plan(1, 2, 0, 6, 11)", "winds(0, 1, 2, 0, 6)", "soonest(1)", "cell(0, 0, 0)", "cell(1, 6, 2)", "cell(2, 0, 1)", "cell(2, 1, 1)",
        "cell(1, 0, 0)", "fault()", "wind(0, 0)", "isle(1, true)", "isle(2, true)");

    private final List<Call> steps;
    private LakeWind real = new LakeWind();
    private Twin twin = new Twin();
    private int calls = 0;

    private EdgeSweepTest(List<Call> steps) {
        this.steps = steps;
        anew();
    }

    public static void main(String[] args) {
        for (List<Call> steps : states()) {
            EdgeSweepTest sweep = new EdgeSweepTest(steps);
            for (String[] call : ASKING) {
                sweep.tryAll(call, 1, call[0] + "(", false);
            }
            for (String[] call : CHANGING) {
                sweep.tryAll(call, 1, call[0] + "(", true);
            }
        }
        end("all answers at the edges are the twin's");
    }

    private static List<List<Call>> states() {
        List<Call> sheets = new ArrayList<>();
        add(sheets, 0, 0, codesOf(THREE));
        add(sheets, 1, 2, 7, 1, 6, 7, 5, 7, 7);
        add(sheets, 2, 1, 8, -1);
        List<Call> three = new ArrayList<>(sheets);
        three.add(new Call("lake(0, 0, 0, 24)"));
        three.add(new Call("reading(0, 0, 1)"));
        three.add(new Call("reading(2, 1, 4)"));
        three.add(new Call("tell(1)"));
        List<Call> one = new ArrayList<>();
        add(one, 0, 0, codesOf("w20;>.<>.<>.<>,o12"));
        one.add(new Call("lake(0, 0, 0, 18)"));
        add(one, 1, 2, 1, 0, 1, 0, 1, 1, 1, 0, 0, 1);
        add(one, 2, 0);
        for (int r = 0; r < 8; r++) {
            one.add(new Call("reading(0, " + r + ", 2)"));
        }
        one.add(new Call("put(3, 0, 0)"));
        return List.of(List.of(), sheets, three, one);
    }

    private static Call[] callsOf(String... told) {
        return Stream.of(told).map(Call::new).toArray(Call[]::new);
    }

    private static int[] codesOf(String text) {
        return text.chars().toArray();
    }

    private static void add(List<Call> steps, int k, int lane, int... cells) {
        steps.add(new Call("sheet(" + k + ", " + lane + ", " + cells.length + ")"));
        for (int c = 0; c < cells.length; c++) {
            steps.add(new Call("put(" + k + ", " + c + ", " + cells[c] + ")"));
        }
    }

    private void anew() {
        real = new LakeWind();
        twin = new Twin();
        calls = 0;
        for (Call step : steps) {
            same("making it", step);
        }
    }

    private void same(String behind, Call call) {
        calls++;
        long got = call.on(real);
        long want = call.on(twin);
        if (got != want) {
            due(call + ", at or behind " + behind, got, want);
            if (wrong > 20) {
                end("");
            }
        }
    }

    private void tryAll(String[] call, int at, String told, boolean isChanging) {
        if (at == call.length) {
            tryOne(told + ")", isChanging);
            return;
        }
        for (String number : call[at].split(" ")) {
            tryAll(call, at + 1, told + (at == 1 ? "" : ", ") + number, isChanging);
        }
    }

    private void tryOne(String told, boolean isChanging) {
        promise = "behind " + steps.size() + " steps";
        if (isChanging || calls > 500) {
            anew();
        }
        same(told, new Call(told));
        if (isChanging) {
            for (Call seen : SEEN) {
                same(told, seen);
            }
        } else {
            same(told, FAULT);
        }
    }
}
