/** Promises 3 to 6: set, number, put, at. */
public final class RowsTest {
    private static final int MIN = Yards.MIN, MAX = Yards.MAX;
    private static final Due due = new Due();

    public static void main(String[] args) {
        setAndNumber();
        grainsAndLiquidsAreWhole();
        dustIsNarrowed();
        setOfNoLoad();
        setOfNoNumbers();
        setOfNoPlace();
        numberThatIsNoRefusal();
        numberOfNoLoad();
        numberOfNoNumbers();
        numberOfNoPlace();
        putAndAt();
        putOfNone();
        putOfNoLoad();
        putInNoRow();
        putOfWhatDoesNotGo();
        putAtNoPlace();
        putOfWhatIsNotSealed();
        putOverAnother();
        atAPlaceWithNone();
        atOfNoLoad();
        atOfNoRow();
        atNoPlace();
        due.end();
    }

    private static void setAndNumber() {
        due.says("Promise 3", "becomes v: 1.");
        CustomsYard yard = Yards.oneOfEach(6);
        int[] values = {1, -1, 127, -128, 0, 5};
        for (int row : Yards.NUMBERS) {
            for (int i = 0; i < 6; i++) {
                due.answer(yard, "set(" + row + ", " + i + ", ..)", yard.set(row, i, values[i]), 1);
            }
            due.answer(yard, "set again", yard.set(row, 3, 9), 1);
            due.answer(yard, "number set again", yard.number(row, 3), 9);
            yard.set(row, 3, values[3]);
            for (int i = 0; i < 6; i++) {
                due.answer(yard, "number(" + row + ", " + i + ")", yard.number(row, i), values[i]);
            }
        }
    }

    /** Only DUST is narrowed: GRAINS are ints, LIQUIDS longs. */
    private static void grainsAndLiquidsAreWhole() {
        due.says("Promise 3", "Number i of GRAINS");
        CustomsYard yard = Yards.oneOfEach(1);
        for (int v : new int[] {MIN, MAX, 128, -129, 255, 256, 32768, -32769, 65536}) {
            due.answer(yard, "set(0, 0, " + v + ")", yard.set(0, 0, v), 1);
            due.answer(yard, "set(2, 0, " + v + ")", yard.set(2, 0, v), 1);
            due.answer(yard, "number(0, 0)", yard.number(0, 0), v);
            due.answer(yard, "number(2, 0)", yard.number(2, 0), v);
        }
    }

    private static void dustIsNarrowed() {
        due.says("Promise 3", "of DUST (the lowest 8 bits of v, with sign)");
        CustomsYard yard = Yards.oneOfEach(1);
        int[][] pairs = {{127, 127}, {128, -128}, {255, -1}, {256, 0}, {300, 44}, {-128, -128}, {-129, 127},
            {-200, 56}, {-256, 0}, {MIN, 0}, {MAX, -1}, {MIN + 127, 127}, {MAX - 127, -128}};
        for (int[] pair : pairs) {
            due.answer(yard, "set(1, 0, " + pair[0] + ")", yard.set(1, 0, pair[0]), 1);
            due.answer(yard, "number(1, 0) of " + pair[0], yard.number(1, 0), pair[1]);
            due.answer(yard, "weight(1) of " + pair[0], yard.weight(1), pair[1]);
        }
    }

    private static void setOfNoLoad() {
        due.says("Promise 3", "BAD");
        CustomsYard yard = Yards.oneOfEach(3);
        for (int load : Yards.outside(0, 12)) {
            due.refusal(yard, "set(" + load + ", 0, 1)", yard.set(load, 0, 1), CustomsYard.BAD);
            due.refusal(yard, "BAD goes first", yard.set(load, 3, 1), CustomsYard.BAD);
        }
    }

    private static void setOfNoNumbers() {
        due.says("Promise 3", "CAST: it is none of these");
        CustomsYard yard = Yards.filled(3);
        for (int load = 3; load <= 12; load++) {
            due.refusal(yard, "set(" + load + ", 0, 1)", yard.set(load, 0, 1), CustomsYard.CAST);
            due.refusal(yard, "CAST goes before INDEX", yard.set(load, 3, 1), CustomsYard.CAST);
            due.refusal(yard, "CAST goes before INDEX", yard.set(load, -1, 1), CustomsYard.CAST);
        }
    }

    private static void setOfNoPlace() {
        due.says("Promise 3", "INDEX.");
        for (int n = 0; n <= 6; n++) {
            CustomsYard yard = Yards.oneOfEach(n);
            for (int row : Yards.NUMBERS) {
                for (int i : Yards.outside(0, n - 1)) {
                    due.refusal(yard, "set(" + row + ", " + i + ", 1) of " + n, yard.set(row, i, 1), CustomsYard.INDEX);
                }
                due.is("nothing was set", yard.weight(row), 0);
            }
        }
    }

    /** Values that are a refusal's number elsewhere. */
    private static void numberThatIsNoRefusal() {
        due.says("Promise 4", "Number i of one of these");
        CustomsYard yard = Yards.oneOfEach(6);
        for (int row : Yards.NUMBERS) {
            for (int i = 0; i < 6; i++) {
                yard.set(row, i, -i);
                due.answer(yard, "number(" + row + ", " + i + ")", yard.number(row, i), -i);
            }
        }
    }

    private static void numberOfNoLoad() {
        due.says("Promise 4", "0: BAD");
        CustomsYard yard = Yards.oneOfEach(3);
        for (int load : Yards.outside(0, 12)) {
            due.zeroFor(yard, "number(" + load + ", 0)", yard.number(load, 0), CustomsYard.BAD);
            due.zeroFor(yard, "BAD goes first", yard.number(load, 3), CustomsYard.BAD);
        }
    }

    private static void numberOfNoNumbers() {
        due.says("Promise 4", "0: BAD, CAST");
        CustomsYard yard = Yards.filled(3);
        for (int load = 3; load <= 12; load++) {
            due.zeroFor(yard, "number(" + load + ", 0)", yard.number(load, 0), CustomsYard.CAST);
            due.zeroFor(yard, "CAST goes before INDEX", yard.number(load, 3), CustomsYard.CAST);
            due.zeroFor(yard, "CAST goes before INDEX", yard.number(load, -1), CustomsYard.CAST);
        }
    }

    private static void numberOfNoPlace() {
        due.says("Promise 4", "0: BAD, CAST, INDEX (told by refused()).");
        for (int n = 0; n <= 6; n++) {
            CustomsYard yard = Yards.oneOfEach(n);
            for (int row : Yards.NUMBERS) {
                for (int i : Yards.outside(0, n - 1)) {
                    due.zeroFor(yard, "number(" + row + ", " + i + ") of " + n, yard.number(row, i), CustomsYard.INDEX);
                }
            }
        }
    }

    /** What put() answers for each SORT in each row: 1, CAST or STORE. */
    private static int duePut(int row, int thing) {
        switch (row) {
            case 3: return thing == 0 ? 1 : CustomsYard.CAST;
            case 7: return thing == 4 || thing == 5 ? 1 : CustomsYard.CAST;
            case 8: return thing == 5 ? 1 : thing == 4 ? CustomsYard.STORE : CustomsYard.CAST;
            case 9: return thing == 5 || thing == 6 ? 1 : CustomsYard.CAST;
            case 10: return thing == 7 || thing == 8 ? 1 : CustomsYard.CAST;
            case 11: return thing == 8 ? 1 : thing == 7 ? CustomsYard.STORE : CustomsYard.CAST;
            case 12: return thing == 8 || thing == 9 ? 1 : CustomsYard.CAST;
            default: return CustomsYard.CAST;
        }
    }

    private static void putAndAt() {
        due.says("Promise 5", "Place i of a row of things (3, 7 to 12) gets a LOAD");
        CustomsYard yard = Yards.oneOfEach(6);
        for (int row : Yards.THINGS) {
            for (int thing = 0; thing <= 12; thing++) {
                if (duePut(row, thing) != 1) {
                    continue;
                }
                for (int i : new int[] {0, 5}) {
                    String call = "put(" + row + ", " + i + ", " + thing + ")";
                    due.answer(yard, call, yard.put(row, i, thing), 1);
                    due.answer(yard, "at after " + call, yard.at(row, i), thing);
                }
            }
            due.answer(yard, "at(" + row + ", 1)", yard.at(row, 1), CustomsYard.NONE);
            due.answer(yard, "at(" + row + ", 4)", yard.at(row, 4), CustomsYard.NONE);
        }
    }

    private static void putOfNone() {
        due.says("Promise 5", "or none (NONE): 1.");
        CustomsYard yard = Yards.filled(2);
        for (int row : Yards.THINGS) {
            int kept = yard.at(row, 0);
            due.answer(yard, "put(" + row + ", 1, NONE)", yard.put(row, 1, CustomsYard.NONE), 1);
            due.answer(yard, "at(" + row + ", 1)", yard.at(row, 1), CustomsYard.NONE);
            due.answer(yard, "put(" + row + ", 1, NONE) again", yard.put(row, 1, CustomsYard.NONE), 1);
            due.answer(yard, "at(" + row + ", 0)", yard.at(row, 0), kept);
        }
    }

    private static void putOfNoLoad() {
        due.says("Promise 5", "BAD");
        CustomsYard yard = Yards.oneOfEach(2);
        for (int load : Yards.outside(0, 12)) {
            due.refusal(yard, "put(" + load + ", 0, 4)", yard.put(load, 0, 4), CustomsYard.BAD);
            due.refusal(yard, "put(" + load + ", 0, NONE)", yard.put(load, 0, CustomsYard.NONE), CustomsYard.BAD);
        }
        for (int other : Yards.outside(CustomsYard.NONE, 12)) {
            due.refusal(yard, "put(7, 0, " + other + ")", yard.put(7, 0, other), CustomsYard.BAD);
            due.refusal(yard, "BAD goes before CAST", yard.put(4, 0, other), CustomsYard.BAD);
            due.refusal(yard, "BAD goes before INDEX", yard.put(7, 2, other), CustomsYard.BAD);
        }
    }

    private static void putInNoRow() {
        due.says("Promise 5", "CAST: it is no such row");
        CustomsYard yard = Yards.oneOfEach(2);
        for (int load : new int[] {0, 1, 2, 4, 5, 6}) {
            for (int other = CustomsYard.NONE; other <= 12; other++) {
                String call = "put(" + load + ", 0, " + other + ")";
                due.refusal(yard, call, yard.put(load, 0, other), CustomsYard.CAST);
            }
            due.refusal(yard, "CAST goes before INDEX", yard.put(load, 2, CustomsYard.NONE), CustomsYard.CAST);
            due.refusal(yard, "CAST goes before INDEX", yard.put(load, -1, 4), CustomsYard.CAST);
        }
    }

    private static void putOfWhatDoesNotGo() {
        due.says("Promise 5", "CAST: the LOAD does not GO AS GRAINS (for 3), PARCEL (7, 8), DECLARED (9), CRATE (10, 11), BUNDLE (12)");
        for (int row : Yards.THINGS) {
            CustomsYard yard = Yards.filled(2);
            int kept = yard.at(row, 0);
            for (int thing = 0; thing <= 12; thing++) {
                if (duePut(row, thing) != CustomsYard.CAST) {
                    continue;
                }
                String call = "put(" + row + ", 0, " + thing + ")";
                due.refusal(yard, call, yard.put(row, 0, thing), CustomsYard.CAST);
                due.refusal(yard, "CAST goes before INDEX, " + thing, yard.put(row, 2, thing), CustomsYard.CAST);
                due.refusal(yard, "CAST goes before INDEX, " + thing, yard.put(row, -1, thing), CustomsYard.CAST);
            }
            due.answer(yard, "at(" + row + ", 0)", yard.at(row, 0), kept);
        }
    }

    private static void putAtNoPlace() {
        due.says("Promise 5", "INDEX");
        for (int n = 0; n <= 6; n++) {
            CustomsYard yard = Yards.oneOfEach(n);
            int[][] pairs = {{3, 0}, {7, 4}, {8, 5}, {9, 6}, {10, 7}, {11, 8}, {12, 9}};
            for (int[] pair : pairs) {
                for (int i : Yards.outside(0, n - 1)) {
                    String call = "put(" + pair[0] + ", " + i + ", ..) of " + n;
                    due.refusal(yard, call, yard.put(pair[0], i, pair[1]), CustomsYard.INDEX);
                    due.refusal(yard, call + " with none", yard.put(pair[0], i, CustomsYard.NONE), CustomsYard.INDEX);
                }
            }
            for (int i : Yards.outside(0, n - 1)) {
                due.refusal(yard, "INDEX goes before STORE, " + i, yard.put(8, i, 4), CustomsYard.INDEX);
                due.refusal(yard, "INDEX goes before STORE, " + i, yard.put(11, i, 7), CustomsYard.INDEX);
            }
        }
    }

    private static void putOfWhatIsNotSealed() {
        due.says("Promise 5", "STORE: it does, but not AS what the row has (SEALED for 8, SEALED CRATE for 11).");
        CustomsYard yard = Yards.oneOfEach(6);
        for (int i = 0; i < 6; i++) {
            due.refusal(yard, "put(8, " + i + ", 4)", yard.put(8, i, 4), CustomsYard.STORE);
            due.refusal(yard, "put(11, " + i + ", 7)", yard.put(11, i, 7), CustomsYard.STORE);
            due.answer(yard, "at(8, " + i + ")", yard.at(8, i), CustomsYard.NONE);
            due.answer(yard, "at(11, " + i + ")", yard.at(11, i), CustomsYard.NONE);
        }
        yard.put(7, 0, 5);
        due.refusal(yard, "a CRATE with a SEALED one", yard.put(11, 0, 7), CustomsYard.STORE);
        due.answer(yard, "put(8, 0, 5)", yard.put(8, 0, 5), 1);
        due.answer(yard, "put(11, 0, 8)", yard.put(11, 0, 8), 1);
        due.refusal(yard, "put(8, 0, 4) over another", yard.put(8, 0, 4), CustomsYard.STORE);
        due.refusal(yard, "put(11, 0, 7) over another", yard.put(11, 0, 7), CustomsYard.STORE);
        due.answer(yard, "at(8, 0)", yard.at(8, 0), 5);
        due.answer(yard, "at(11, 0)", yard.at(11, 0), 8);
    }

    /** Over another LOAD too, and one that lies at another place already. */
    private static void putOverAnother() {
        due.says("Promise 5", "gets a LOAD");
        CustomsYard yard = Yards.oneOfEach(2);
        yard.put(7, 0, 4);
        yard.put(7, 1, 4);
        due.answer(yard, "at(7, 0)", yard.at(7, 0), 4);
        due.answer(yard, "at(7, 1)", yard.at(7, 1), 4);
        due.answer(yard, "put(7, 1, 5)", yard.put(7, 1, 5), 1);
        due.answer(yard, "at(7, 1)", yard.at(7, 1), 5);
        due.answer(yard, "at(7, 0)", yard.at(7, 0), 4);
    }

    private static void atAPlaceWithNone() {
        due.says("Promise 6", "The LOAD at place i of a row of things; NONE.");
        CustomsYard yard = Yards.filled(6);
        for (int row : Yards.THINGS) {
            yard.put(row, 5, CustomsYard.NONE);
            due.answer(yard, "at(" + row + ", 5)", yard.at(row, 5), CustomsYard.NONE);
        }
        due.answer(yard, "LOAD 0 is not NONE", yard.at(3, 4), 0);
    }

    private static void atOfNoLoad() {
        due.says("Promise 6", "BAD");
        CustomsYard yard = Yards.oneOfEach(2);
        for (int load : Yards.outside(0, 12)) {
            due.refusal(yard, "at(" + load + ", 0)", yard.at(load, 0), CustomsYard.BAD);
            due.refusal(yard, "BAD goes first", yard.at(load, 2), CustomsYard.BAD);
        }
    }

    private static void atOfNoRow() {
        due.says("Promise 6", "CAST");
        CustomsYard yard = Yards.oneOfEach(2);
        for (int load : new int[] {0, 1, 2, 4, 5, 6}) {
            due.refusal(yard, "at(" + load + ", 0)", yard.at(load, 0), CustomsYard.CAST);
            due.refusal(yard, "CAST goes before INDEX", yard.at(load, 2), CustomsYard.CAST);
            due.refusal(yard, "CAST goes before INDEX", yard.at(load, -1), CustomsYard.CAST);
        }
    }

    private static void atNoPlace() {
        due.says("Promise 6", "INDEX.");
        for (int n = 0; n <= 6; n++) {
            CustomsYard yard = Yards.filled(n);
            for (int row : Yards.THINGS) {
                for (int i : Yards.outside(0, n - 1)) {
                    due.refusal(yard, "at(" + row + ", " + i + ") of " + n, yard.at(row, i), CustomsYard.INDEX);
                }
            }
        }
    }
}
