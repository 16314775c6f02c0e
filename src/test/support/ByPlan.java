/** What all calls that take a plan have in common: what they refuse, and to which faults they come. */
abstract class ByPlan extends Hand {
    private final String name;
    private final boolean isLong;

    ByPlan(String name, boolean isLong) {
        this.name = name;
        this.isLong = isLong;
    }

    abstract long ask(LakeWind x, int sheet, int lane, int i, int n);

    private void looked(LakeWind x, int sheet, int lane, int i, int n, int want, int fault) {
        String call = name + " by sheet " + sheet + ", lane " + lane + ", i " + i + ", n " + n;
        dueWithFault(call, x, ask(x, sheet, lane, i, n), isLong ? LakeWind.LOST : want, fault);
    }

    /** Three boats, six hours; sheet 1 of lane 2 has seven sets, sheet 2 of lane 0 has three cells that are none. */
    private static LakeWind made() {
        LakeWind x = at(THREE);
        fill(x, 1, 2, 7, 1, 2, 4, 7, 0, 3);
        fill(x, 2, 0, 8, 7, -1);
        return x;
    }

    final void noSheet() {
        LakeWind x = made();
        for (int k : beyond(0, 3)) {
            looked(x, k, 2, 0, 1, LakeWind.UNKNOWN, 0);
            looked(x, k, 3, 0, 11, LakeWind.UNKNOWN, 0);
        }
    }

    final void noLaneOrTooManyHours() {
        LakeWind x = made();
        for (int lane : beyond(0, 2)) {
            looked(x, 1, lane, 0, 1, LakeWind.OUTSIDE, 0);
            looked(x, 3, lane, -1, 1, LakeWind.OUTSIDE, 0);
        }
        for (int n : beyond(0, 10)) {
            looked(x, 1, 2, 0, n, LakeWind.OUTSIDE, 0);
            looked(x, 1, 1, -1, n, LakeWind.OUTSIDE, 0);
            looked(x, 3, 1, -1, n, LakeWind.OUTSIDE, 0);
        }
    }

    final void faults() {
        LakeWind x = made();
        looked(x, 1, 0, 0, 1, CAST, 2);
        looked(x, 1, 1, -1, 10, CAST, 2);
        looked(x, 3, 1, 0, 1, NULL, 1);
        looked(x, 3, 1, -1, 10, NULL, 1);
        for (int i : beyond(0, 7)) {
            looked(x, 1, 2, i, 0, INDEX, 3);
            looked(x, 1, 2, i, 10, INDEX, 3);
        }
        looked(x, 1, 2, 7, 1, INDEX, 3);
        looked(x, 1, 2, 0, 8, INDEX, 3);
        looked(x, 1, 2, 1, 7, INDEX, 3);
        looked(x, 2, 0, 0, 4, INDEX, 3);
    }

    final void moreThanThereAre() {
        LakeWind x = made();
        looked(x, 1, 2, 0, 7, LakeWind.OUTSIDE, 0);
        due(name + ", as many hours as there are", ask(x, 1, 2, 0, 6) >= 0 ? 1 : 0, 1);
        due(name + ", from 1 on", ask(x, 1, 2, 1, 6) >= 0 ? 1 : 0, 1);
        looked(x, 2, 0, 0, 1, LakeWind.OUTSIDE, 0);
        looked(x, 2, 0, 2, 1, LakeWind.OUTSIDE, 0);
        looked(x, 2, 0, 1, 2, LakeWind.OUTSIDE, 0);
        looked(x, 2, 0, 0, 3, LakeWind.OUTSIDE, 0);
        due(name + ", the set between alone", ask(x, 2, 0, 1, 1) >= 0 ? 1 : 0, 1);
        due(name + ", none of them", ask(x, 2, 0, 3, 0) >= 0 ? 1 : 0, 1);
        x.put(2, 1, 256 + 7);
        due(name + ", a cell that is cut to a set", ask(x, 2, 0, 1, 1) >= 0 ? 1 : 0, 1);
        for (int cell : new int[] {LEAST, MOST, 8, -8, 16, 1 << 30}) {
            x.put(1, 5, cell);
            looked(x, 1, 2, 0, 6, LakeWind.OUTSIDE, 0);
            due(name + ", ahead of it", ask(x, 1, 2, 0, 5) >= 0 ? 1 : 0, 1);
        }
        setsOfFewerBoats();
    }

    private void setsOfFewerBoats() {
        String[] texts = {"w20;>,b01", "w20;>,b01,b11"};
        for (int boats = 1; boats <= 2; boats++) {
            LakeWind x = at(texts[boats - 1]);
            for (int cell = 0; cell < 8; cell++) {
                fill(x, 1, 2, cell);
                if (cell < 1 << boats) {
                    due(name + ", set " + cell + " of " + boats, ask(x, 1, 2, 0, 1) >= 0 ? 1 : 0, 1);
                } else {
                    looked(x, 1, 2, 0, 1, LakeWind.OUTSIDE, 0);
                }
            }
        }
    }

    final void elseAsPlan() {
        faults();
        moreThanThereAre();
    }
}
