/** Promises 1 to 6 and 9: a new object, load, set, number, put, at, sort. */
public final class LoadsTest {
    private static final int MIN = Integer.MIN_VALUE, MAX = Integer.MAX_VALUE;
    private static final Due due = new Due();

    public static void main(String[] args) {
        newObject();
        loadsAreNumbered();
        loadsAreRefused();
        loadsAreFullAtEighty();
        setAndNumber();
        dustIsNarrowed();
        setAndNumberAreRefused();
        putAndAt();
        putIsRefusedInOrder();
        atIsRefused();
        sortOfEach();
        due.end();
    }

    /** Thirteen LOADS, the LOAD's number being its SORT. */
    static CustomsYard oneOfEach(int places) {
        CustomsYard yard = new CustomsYard();
        for (int sort = 0; sort <= 12; sort++) {
            yard.load(sort, places);
        }
        return yard;
    }

    private static void newObject() {
        CustomsYard yard = new CustomsYard();
        due.is("refused()", yard.refused(), 0);
        for (int what = 0; what <= 5; what++) {
            due.is("count(" + what + ")", yard.count(what), 0);
        }
        due.refusal(yard, "sort(0)", yard.sort(0), CustomsYard.BAD);
        for (int bay = 0; bay < 12; bay++) {
            due.answer(yard, "bay(" + bay + ", 0)", yard.bay(bay, 0), CustomsYard.NONE);
        }
        yard.load(4, 7);
        due.answer(yard, "line(0)", yard.line(0), CustomsYard.NONE);
        for (int gate = 0; gate < 6; gate++) {
            due.refusal(yard, "pass(0, " + gate + ")", yard.pass(0, gate), CustomsYard.BAD);
            due.answer(yard, "passed(" + gate + ")", yard.passed(gate), 0);
            due.answer(yard, "gate(" + gate + ", 0)", yard.gate(gate, 0), CustomsYard.NONE);
        }
        for (int bay = 0; bay < 12; bay++) {
            due.answer(yard, "hold(" + bay + ", 0)", yard.hold(bay, 0), CustomsYard.NONE);
        }
        due.is("count(0) of another", new CustomsYard().count(0), 0);
    }

    private static void loadsAreNumbered() {
        CustomsYard yard = new CustomsYard();
        for (int sort = 0; sort <= 12; sort++) {
            boolean piece = sort >= 4 && sort <= 6;
            int most = piece ? 1000 : 6;
            due.answer(yard, "load(" + sort + ", 0)", yard.load(sort, 0), 2L * sort);
            due.answer(yard, "load(" + sort + ", " + most + ")", yard.load(sort, most), 2L * sort + 1);
            due.is("take of the least", yard.take(2 * sort, sort), 0);
            due.is("take of the most", yard.take(2 * sort + 1, sort), most);
        }
        due.is("count(0)", yard.count(0), 26);
        for (int i = 0; i < 6; i++) {
            due.is("a number at first", yard.number(1, i), 0);
            due.is("a thing at first", yard.at(7, i), CustomsYard.NONE);
        }
    }

    private static void loadsAreRefused() {
        CustomsYard yard = new CustomsYard();
        int[] noSort = {-1, 13, 14, MIN, MAX};
        for (int sort : noSort) {
            due.refusal(yard, "load(" + sort + ", 1)", yard.load(sort, 1), CustomsYard.BAD);
        }
        for (int sort = 0; sort <= 12; sort++) {
            int over = sort >= 4 && sort <= 6 ? 1001 : 7;
            int[] noPlaces = {-1, over, MIN, MAX};
            for (int n : noPlaces) {
                due.refusal(yard, "load(" + sort + ", " + n + ")", yard.load(sort, n), CustomsYard.BAD);
            }
        }
        due.is("count(0)", yard.count(0), 0);
        due.is("load(6, 1000)", yard.load(6, 1000), 0);
    }

    private static void loadsAreFullAtEighty() {
        CustomsYard yard = new CustomsYard();
        for (int i = 0; i < 80; i++) {
            due.answer(yard, "load", yard.load(i % 13, 6), i);
        }
        due.refusal(yard, "load beyond 80", yard.load(4, 1), CustomsYard.FULL);
        due.refusal(yard, "BAD goes before FULL", yard.load(13, 1), CustomsYard.BAD);
        due.refusal(yard, "BAD goes before FULL", yard.load(0, 7), CustomsYard.BAD);
        due.is("count(0)", yard.count(0), 80);
        due.is("sort(79)", yard.sort(79), 1);
        due.refusal(yard, "sort(80)", yard.sort(80), CustomsYard.BAD);
    }

    private static void setAndNumber() {
        CustomsYard yard = oneOfEach(6);
        int[] values = {1, -1, 127, -128, 0, 5};
        for (int row = 0; row <= 2; row++) {
            for (int i = 0; i < 6; i++) {
                due.answer(yard, "set", yard.set(row, i, values[i]), 1);
            }
            for (int i = 0; i < 6; i++) {
                due.answer(yard, "number(" + row + ", " + i + ")", yard.number(row, i), values[i]);
            }
        }
        for (int row = 0; row <= 2; row += 2) {
            yard.set(row, 0, MIN);
            yard.set(row, 5, MAX);
            due.is("number of the least", yard.number(row, 0), MIN);
            due.is("number of the most", yard.number(row, 5), MAX);
        }
    }

    private static void dustIsNarrowed() {
        CustomsYard yard = oneOfEach(1);
        int[][] pairs = {{127, 127}, {128, -128}, {255, -1}, {256, 0}, {300, 44}, {-129, 127}, {-200, 56}, {MIN, 0}, {MAX, -1}};
        for (int[] pair : pairs) {
            due.is("set(1, 0, " + pair[0] + ")", yard.set(1, 0, pair[0]), 1);
            due.is("number(1, 0) of " + pair[0], yard.number(1, 0), pair[1]);
        }
        yard.set(0, 0, 300);
        yard.set(2, 0, 300);
        due.is("GRAINS stay", yard.number(0, 0), 300);
        due.is("LIQUIDS stay", yard.number(2, 0), 300);
    }

    private static void setAndNumberAreRefused() {
        CustomsYard yard = oneOfEach(3);
        int[] noLoad = {-1, -2, 13, 80, MIN, MAX};
        for (int load : noLoad) {
            due.refusal(yard, "set(" + load + ", 0, 1)", yard.set(load, 0, 1), CustomsYard.BAD);
            due.zeroFor(yard, "number(" + load + ", 0)", yard.number(load, 0), CustomsYard.BAD);
        }
        for (int load = 3; load <= 12; load++) {
            due.refusal(yard, "set(" + load + ", 0, 1)", yard.set(load, 0, 1), CustomsYard.CAST);
            due.refusal(yard, "CAST goes before INDEX", yard.set(load, 9, 1), CustomsYard.CAST);
            due.zeroFor(yard, "number(" + load + ", -1)", yard.number(load, -1), CustomsYard.CAST);
        }
        due.is("count(1)", yard.count(1), 30);
        int[] noPlace = {-1, 3, MIN, MAX};
        for (int row = 0; row <= 2; row++) {
            for (int i : noPlace) {
                due.refusal(yard, "set(" + row + ", " + i + ", 1)", yard.set(row, i, 1), CustomsYard.INDEX);
                due.zeroFor(yard, "number(" + row + ", " + i + ")", yard.number(row, i), CustomsYard.INDEX);
            }
            due.is("a refused set changes nothing", yard.weight(row), 0);
        }
        due.is("count(1)", yard.count(1), 30);
        due.is("count(2)", yard.count(2), 24);
    }

    private static void putAndAt() {
        CustomsYard yard = oneOfEach(2);
        // Each SORT of row with what it keeps.
        int[][] kept = {{3, 0}, {7, 4, 5}, {8, 5}, {9, 5, 6}, {10, 7, 8}, {11, 8}, {12, 8, 9}};
        for (int[] row : kept) {
            for (int j = 1; j < row.length; j++) {
                String call = "put(" + row[0] + ", 1, " + row[j] + ")";
                due.answer(yard, call, yard.put(row[0], 1, row[j]), 1);
                due.answer(yard, "at after " + call, yard.at(row[0], 1), row[j]);
                due.answer(yard, "at(" + row[0] + ", 0)", yard.at(row[0], 0), CustomsYard.NONE);
            }
            due.answer(yard, "put of none", yard.put(row[0], 1, CustomsYard.NONE), 1);
            due.answer(yard, "at after none", yard.at(row[0], 1), CustomsYard.NONE);
        }
        yard.put(7, 0, 4);
        yard.put(7, 1, 4);
        due.is("a LOAD at two places", yard.at(7, 0) + yard.at(7, 1), 8);
    }

    /** What put() answers for each SORT in each row: 1, CAST or STORE. */
    private static long duePut(int row, int thing) {
        switch (row) {
            case 3: return thing == 0 ? 1 : CustomsYard.CAST;
            case 7: return thing == 4 || thing == 5 ? 1 : CustomsYard.CAST;
            case 8: return thing == 5 ? 1 : thing == 4 ? CustomsYard.STORE : CustomsYard.CAST;
            case 9: return thing == 5 || thing == 6 ? 1 : CustomsYard.CAST;
            case 10: return thing == 7 || thing == 8 ? 1 : CustomsYard.CAST;
            case 11: return thing == 8 ? 1 : thing == 7 ? CustomsYard.STORE : CustomsYard.CAST;
            case 12: return thing == 8 || thing == 9 ? 1 : CustomsYard.CAST;
            default: return CustomsYard.CAST;
        }
    }

    private static void putIsRefusedInOrder() {
        CustomsYard yard = oneOfEach(2);
        for (int row = 0; row <= 12; row++) {
            for (int thing = 0; thing <= 12; thing++) {
                String call = "put(" + row + ", 0, " + thing + ")";
                long want = duePut(row, thing);
                due.is(call, yard.put(row, 0, thing), want);
                due.is(call + ", then refused()", yard.refused(), want == 1 ? 0 : want);
            }
        }
        int[] noPlace = {-1, 2, MIN, MAX};
        for (int i : noPlace) {
            due.refusal(yard, "INDEX for a fitting thing", yard.put(7, i, 4), CustomsYard.INDEX);
            due.refusal(yard, "INDEX for none", yard.put(7, i, CustomsYard.NONE), CustomsYard.INDEX);
            due.refusal(yard, "INDEX goes before STORE", yard.put(8, i, 4), CustomsYard.INDEX);
            due.refusal(yard, "INDEX goes before STORE", yard.put(11, i, 7), CustomsYard.INDEX);
            due.refusal(yard, "CAST goes before INDEX", yard.put(7, i, 6), CustomsYard.CAST);
            due.refusal(yard, "no row of things, with none", yard.put(0, i, CustomsYard.NONE), CustomsYard.CAST);
        }
        int[] noLoad = {-2, 13, 80, MIN, MAX};
        for (int load : noLoad) {
            due.refusal(yard, "put(" + load + ", 0, 4)", yard.put(load, 0, 4), CustomsYard.BAD);
            due.refusal(yard, "put(7, 0, " + load + ")", yard.put(7, 0, load), CustomsYard.BAD);
            due.refusal(yard, "BAD goes before CAST", yard.put(4, 0, load), CustomsYard.BAD);
            due.refusal(yard, "BAD goes before INDEX", yard.put(7, 9, load), CustomsYard.BAD);
        }
        due.refusal(yard, "put(-1, 0, -1)", yard.put(-1, 0, -1), CustomsYard.BAD);
        due.is("a refused put changes nothing", yard.at(8, 0), 5);
        due.is("a refused put changes nothing", yard.at(11, 0), 8);
        due.is("a refused put changes nothing", yard.at(7, 0), 5);
    }

    private static void atIsRefused() {
        CustomsYard yard = oneOfEach(2);
        int[] noLoad = {-1, -2, 13, MIN, MAX};
        for (int load : noLoad) {
            due.refusal(yard, "at(" + load + ", 0)", yard.at(load, 0), CustomsYard.BAD);
        }
        int[] noRow = {0, 1, 2, 4, 5, 6};
        for (int load : noRow) {
            due.refusal(yard, "at(" + load + ", 0)", yard.at(load, 0), CustomsYard.CAST);
            due.refusal(yard, "at(" + load + ", 5)", yard.at(load, 5), CustomsYard.CAST);
        }
        int[] rows = {3, 7, 8, 9, 10, 11, 12};
        int[] noPlace = {-1, 2, MIN, MAX};
        for (int load : rows) {
            for (int i : noPlace) {
                due.refusal(yard, "at(" + load + ", " + i + ")", yard.at(load, i), CustomsYard.INDEX);
            }
        }
        due.is("count(1)", yard.count(1), 12);
        due.is("count(2)", yard.count(2), 28);
    }

    private static void sortOfEach() {
        CustomsYard yard = oneOfEach(0);
        for (int load = 0; load <= 12; load++) {
            due.answer(yard, "sort(" + load + ")", yard.sort(load), load);
        }
        int[] noLoad = {-1, 13, MIN, MAX};
        for (int load : noLoad) {
            due.refusal(yard, "sort(" + load + ")", yard.sort(load), CustomsYard.BAD);
        }
    }
}
