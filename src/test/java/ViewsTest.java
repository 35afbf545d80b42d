/** Promises 7, 8, 10 and 11: is, take, weight, inside. */
public final class ViewsTest {
    private static final int MIN = Integer.MIN_VALUE, MAX = Integer.MAX_VALUE;
    private static final int[] NO_VIEW = {-1, 14, MIN, MAX};
    private static final int[] NO_LOAD = {-1, -2, 13, 80, MIN, MAX};
    private static final Due due = new Due();

    /** By SORT the VIEWS that it goes as, as the Terms list them. */
    private static final int[][] GOES_AS = {
        {0}, {1}, {2}, {3}, {4}, {5, 4, 13}, {6, 13}, {7}, {8, 7, 9}, {9}, {10}, {11, 10, 12}, {12}
    };

    public static void main(String[] args) {
        isOfEach();
        takeOfEach();
        takeIsRefused();
        weightOfNumbers();
        weightOfThings();
        insideOfRows();
        insideOfFullStacks();
        due.end();
    }

    private static boolean goesAs(int sort, int view) {
        for (int as : GOES_AS[sort]) {
            if (as == view) {
                return true;
            }
        }
        return false;
    }

    private static void isOfEach() {
        for (int sort = 0; sort <= 12; sort++) {
            CustomsYard yard = new CustomsYard();
            yard.load(sort, 1);
            for (int view = 0; view <= 13; view++) {
                String call = "is of " + sort + " as " + view;
                due.answer(yard, call, yard.is(0, view), goesAs(sort, view) ? 1 : 0);
                due.answer(yard, "inside for " + call, yard.inside(0, view), goesAs(sort, view) ? 1 : 0);
            }
            for (int view : NO_VIEW) {
                due.refusal(yard, "is(0, " + view + ")", yard.is(0, view), CustomsYard.BAD);
            }
            due.is("is() counts no CAST", yard.count(1), 0);
        }
        CustomsYard yard = LoadsTest.oneOfEach(1);
        for (int load : NO_LOAD) {
            due.refusal(yard, "is(" + load + ", 0)", yard.is(load, 0), CustomsYard.BAD);
        }
    }

    private static long dueTake(int sort, int view, int n) {
        if (!goesAs(sort, view)) {
            return CustomsYard.CAST;
        }
        if (view != 13) {
            return n;
        }
        return sort == 5 ? n + 1000 : 2 * n;
    }

    private static void takeOfEach() {
        for (int sort = 0; sort <= 12; sort++) {
            for (int n : sort >= 4 && sort <= 6 ? new int[] {0, 1, 7, 1000} : new int[] {0, 1, 6}) {
                CustomsYard yard = new CustomsYard();
                yard.load(sort, n);
                for (int view = 0; view <= 13; view++) {
                    long want = dueTake(sort, view, n);
                    String call = "take of " + sort + " with " + n + " as " + view;
                    due.is(call, yard.take(0, view), want);
                    due.is(call + ", then refused()", yard.refused(), want < 0 ? want : 0);
                }
                due.is("casts counted", yard.count(1), 14 - GOES_AS[sort].length);
            }
        }
    }

    private static void takeIsRefused() {
        CustomsYard yard = LoadsTest.oneOfEach(1);
        for (int load : NO_LOAD) {
            due.refusal(yard, "take(" + load + ", 0)", yard.take(load, 0), CustomsYard.BAD);
            due.zeroFor(yard, "weight(" + load + ")", yard.weight(load), CustomsYard.BAD);
            due.refusal(yard, "inside(" + load + ", 0)", yard.inside(load, 0), CustomsYard.BAD);
        }
        for (int view : NO_VIEW) {
            due.refusal(yard, "take(0, " + view + ")", yard.take(0, view), CustomsYard.BAD);
            due.refusal(yard, "inside(0, " + view + ")", yard.inside(0, view), CustomsYard.BAD);
        }
        due.is("BAD is no CAST", yard.count(1), 0);
    }

    private static void weightOfNumbers() {
        CustomsYard yard = LoadsTest.oneOfEach(6);
        for (int row = 0; row <= 2; row++) {
            due.answer(yard, "weight of zeros", yard.weight(row), 0);
            for (int i = 0; i < 6; i++) {
                yard.set(row, i, MAX);
            }
        }
        due.answer(yard, "weight of GRAINS is a long", yard.weight(0), 6L * MAX);
        due.answer(yard, "weight of DUST", yard.weight(1), -6);
        due.answer(yard, "weight of LIQUIDS", yard.weight(2), 6L * MAX);
        for (int i = 0; i < 6; i++) {
            yard.set(0, i, MIN);
            yard.set(1, i, 127);
        }
        due.is("weight of the least GRAINS", yard.weight(0), 6L * MIN);
        due.is("weight of the most DUST", yard.weight(1), 6 * 127);
        for (int i = 0; i < 6; i++) {
            yard.put(3, i, 0);
        }
        due.answer(yard, "weight of SHELVES", yard.weight(3), 36L * MIN);
        yard.set(0, 0, 0);
        due.answer(yard, "SHELVES follow their GRAINS", yard.weight(3), 30L * MIN);
        due.is("weight of a row of none", new CustomsYard().weight(0), 0);
    }

    private static void weightOfThings() {
        CustomsYard yard = new CustomsYard();
        int parcel = yard.load(4, 1000), sealed = yard.load(5, 30), letter = yard.load(6, 7);
        int crate = yard.load(7, 3), sealedCrate = yard.load(8, 2), bundle = yard.load(9, 3);
        int stack = yard.load(10, 3), sealedStack = yard.load(11, 2), bale = yard.load(12, 2);
        due.answer(yard, "weight of a PARCEL", yard.weight(parcel), 1000);
        due.answer(yard, "weight of a SEALED one is no DECLARATION", yard.weight(sealed), 30);
        due.answer(yard, "weight of a LETTER is no DECLARATION", yard.weight(letter), 7);
        due.answer(yard, "weight of an empty CRATE", yard.weight(crate), 0);
        yard.put(crate, 0, parcel);
        yard.put(crate, 2, sealed);
        due.answer(yard, "weight of a CRATE", yard.weight(crate), 1030);
        yard.put(sealedCrate, 0, sealed);
        yard.put(sealedCrate, 1, sealed);
        due.answer(yard, "weight of a SEALED CRATE", yard.weight(sealedCrate), 60);
        yard.put(bundle, 0, letter);
        yard.put(bundle, 1, sealed);
        due.answer(yard, "weight of a BUNDLE", yard.weight(bundle), 37);
        yard.put(stack, 0, crate);
        yard.put(stack, 1, sealedCrate);
        due.answer(yard, "weight of a STACK", yard.weight(stack), 1090);
        yard.put(sealedStack, 1, sealedCrate);
        due.answer(yard, "weight of a SEALED STACK", yard.weight(sealedStack), 60);
        yard.put(bale, 0, bundle);
        yard.put(bale, 1, sealedCrate);
        due.answer(yard, "weight of a BALE", yard.weight(bale), 97);
        yard.put(sealedCrate, 0, CustomsYard.NONE);
        due.answer(yard, "a BALE follows what lies in it", yard.weight(bale), 67);
    }

    private static void insideOfRows() {
        CustomsYard yard = new CustomsYard();
        int grains = yard.load(0, 6), shelves = yard.load(3, 4);
        yard.put(shelves, 0, grains);
        yard.put(shelves, 2, grains);
        due.answer(yard, "GRAINS in SHELVES", yard.inside(shelves, 0), 2);
        due.answer(yard, "SHELVES in SHELVES", yard.inside(shelves, 3), 1);
        due.answer(yard, "numbers are no things", yard.inside(grains, 0), 1);
        int sealed = yard.load(5, 1), letter = yard.load(6, 1);
        int sealedCrate = yard.load(8, 3), bundle = yard.load(9, 2), bale = yard.load(12, 6);
        yard.put(sealedCrate, 0, sealed);
        yard.put(sealedCrate, 2, sealed);
        yard.put(bundle, 0, letter);
        yard.put(bundle, 1, sealed);
        yard.put(bale, 0, sealedCrate);
        yard.put(bale, 1, bundle);
        yard.put(bale, 5, sealedCrate);
        int[] wants = {0, 0, 0, 0, 5, 5, 1, 2, 2, 3, 0, 0, 1, 6};
        for (int view = 0; view <= 13; view++) {
            due.answer(yard, "inside a BALE as " + view, yard.inside(bale, view), wants[view]);
        }
    }

    private static void insideOfFullStacks() {
        CustomsYard yard = new CustomsYard();
        int sealed = yard.load(5, 1000), crate = yard.load(8, 6), stack = yard.load(11, 6);
        for (int i = 0; i < 6; i++) {
            yard.put(crate, i, sealed);
            yard.put(stack, i, crate);
        }
        int[] wants = {0, 0, 0, 0, 36, 36, 0, 6, 6, 6, 1, 1, 1, 36};
        for (int view = 0; view <= 13; view++) {
            due.answer(yard, "inside a full SEALED STACK as " + view, yard.inside(stack, view), wants[view]);
        }
        due.answer(yard, "weight of it", yard.weight(stack), 36000);
    }
}
