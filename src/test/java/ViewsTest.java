/** Promises 7, 8, 10 and 11: is, take, weight, inside. */
public final class ViewsTest {
    private static final Due due = new Due();

    public static void main(String[] args) {
        isOneOrZero();
        isOfNoLoadOrView();
        takeWhatComes();
        takeOfNoLoadOrView();
        takeOfWhatDoesNotGo();
        weightOfALoad();
        weightOfNoLoad();
        insideOfTheLoadItself();
        insideInThat();
        insideAsOftenAsItStands();
        insideOfEmptyPlaces();
        insideOfTheFullest();
        insideOfNoLoadOrView();
        due.end();
    }

    interface OfLoadAndView {
        int asked(CustomsYard yard, int load, int view);
    }

    private static void badOfNoLoadOrView(String name, OfLoadAndView call) {
        CustomsYard yard = Yards.filled(1);
        for (int load : Yards.outside(0, 12)) {
            for (int view : new int[] {0, 13, 14}) {
                due.refusal(yard, name + "(" + load + ", " + view + ")", call.asked(yard, load, view), CustomsYard.BAD);
            }
        }
        for (int load = 0; load <= 12; load++) {
            for (int view : Yards.NO_VIEW) {
                due.refusal(yard, name + "(" + load + ", " + view + ")", call.asked(yard, load, view), CustomsYard.BAD);
            }
        }
        due.is("BAD is no CAST", yard.count(1), 0);
    }

    private static void isOneOrZero() {
        due.says("Promise 7", "Whether a LOAD GOES AS a VIEW: 1, 0.");
        for (int n : new int[] {0, 6}) {
            CustomsYard yard = Yards.filled(n);
            for (int load = 0; load <= 12; load++) {
                for (int view = 0; view <= 13; view++) {
                    int goes = Yards.goesAs(load, view) ? 1 : 0;
                    due.answer(yard, "is(" + load + ", " + view + ")", yard.is(load, view), goes);
                }
            }
            due.is("is() counts no CAST", yard.count(1), 0);
        }
    }

    private static void isOfNoLoadOrView() {
        due.says("Promise 7", "BAD.");
        badOfNoLoadOrView("is", CustomsYard::is);
    }

    private static void takeWhatComes() {
        due.says("Promise 8", "What comes of TAKING a LOAD AS a VIEW.");
        CustomsYard yard = Yards.filled(6);
        int[][] wants = {{0, 0, 6}, {1, 1, 6}, {2, 2, 6}, {3, 3, 6}, {4, 4, 6}, {5, 5, 6}, {5, 4, 6}, {5, 13, 1006},
            {6, 6, 6}, {6, 13, 12}, {7, 7, 6}, {8, 8, 6}, {8, 7, 6}, {8, 9, 6}, {9, 9, 6}, {10, 10, 6}, {11, 11, 6},
            {11, 10, 6}, {11, 12, 6}, {12, 12, 6}};
        for (int[] want : wants) {
            due.answer(yard, "take(" + want[0] + ", " + want[1] + ")", yard.take(want[0], want[1]), want[2]);
        }
        CustomsYard bare = Yards.oneOfEach(0);
        due.answer(bare, "what comes of a SEALED one of 0", bare.take(5, 13), 1000);
        due.answer(bare, "what comes of a LETTER of 0", bare.take(6, 13), 0);
        due.answer(bare, "what comes of a row without places", bare.take(11, 12), 0);
    }

    private static void takeOfNoLoadOrView() {
        due.says("Promise 8", "BAD");
        badOfNoLoadOrView("take", CustomsYard::take);
    }

    private static void takeOfWhatDoesNotGo() {
        due.says("Promise 8", "CAST.");
        for (int load = 0; load <= 12; load++) {
            CustomsYard yard = Yards.filled(2);
            int casts = 0;
            for (int view = 0; view <= 13; view++) {
                if (!Yards.goesAs(load, view)) {
                    due.refusal(yard, "take(" + load + ", " + view + ")", yard.take(load, view), CustomsYard.CAST);
                    casts++;
                }
            }
            due.is("casts counted", yard.count(1), casts);
        }
    }

    private static void weightOfALoad() {
        due.says("Promise 10", "THE WEIGHT of a LOAD");
        CustomsYard yard = Yards.filled(6);
        yard.set(0, 0, -7);
        yard.set(1, 0, 200);
        yard.set(2, 5, Yards.MIN);
        long[] wants = {-7, -56, Yards.MIN, -42, 6, 6, 6, 36, 36, 36, 216, 216, 216};
        for (int load = 0; load <= 12; load++) {
            due.answer(yard, "weight(" + load + ")", yard.weight(load), wants[load]);
        }
    }

    private static void weightOfNoLoad() {
        due.says("Promise 10", "0: BAD.");
        CustomsYard yard = Yards.oneOfEach(1);
        for (int load : Yards.outside(0, 12)) {
            due.zeroFor(yard, "weight(" + load + ")", yard.weight(load), CustomsYard.BAD);
        }
        due.answer(yard, "a WEIGHT of 0 is no refusal", yard.weight(0), 0);
    }

    private static void insideOfTheLoadItself() {
        due.says("Promise 11", "How many things GO AS a VIEW: the LOAD itself");
        CustomsYard yard = Yards.oneOfEach(6);
        for (int load = 0; load <= 12; load++) {
            for (int view = 0; view <= 13; view++) {
                int goes = Yards.goesAs(load, view) ? 1 : 0;
                due.answer(yard, "inside(" + load + ", " + view + ")", yard.inside(load, view), goes);
            }
        }
    }

    private static void insideInThat() {
        due.says("Promise 11", "what is in it, in that, ..");
        CustomsYard yard = Yards.filled(1);
        int[][] wants = {{3, 0, 1}, {7, 4, 1}, {8, 5, 1}, {8, 4, 1}, {8, 13, 1}, {9, 13, 1}, {10, 7, 1}, {10, 4, 1},
            {10, 5, 0}, {11, 8, 1}, {11, 7, 1}, {11, 9, 1}, {11, 5, 1}, {11, 13, 1}, {12, 9, 1}, {12, 5, 1}, {12, 8, 0}};
        for (int[] want : wants) {
            due.answer(yard, "inside(" + want[0] + ", " + want[1] + ")", yard.inside(want[0], want[1]), want[2]);
        }
    }

    private static void insideAsOftenAsItStands() {
        due.says("Promise 11", "each as often as it stands there.");
        CustomsYard yard = new CustomsYard();
        int grains = yard.load(0, 6), shelves = yard.load(3, 4);
        yard.put(shelves, 0, grains);
        yard.put(shelves, 2, grains);
        due.answer(yard, "GRAINS in SHELVES", yard.inside(shelves, 0), 2);
        int sealed = yard.load(5, 1), letter = yard.load(6, 1);
        int sealedCrate = yard.load(8, 3), bundle = yard.load(9, 2), bale = yard.load(12, 6);
        yard.put(sealedCrate, 0, sealed);
        yard.put(sealedCrate, 2, sealed);
        yard.put(bundle, 0, letter);
        yard.put(bundle, 1, sealed);
        yard.put(bale, 0, sealedCrate);
        yard.put(bale, 1, bundle);
        yard.put(bale, 5, sealedCrate);
        int[] wants = {0, 0, 0, 0, 5, 5, 1, 2, 2, 3, 0, 0, 1, 6};
        for (int view = 0; view <= 13; view++) {
            due.answer(yard, "inside a BALE as " + view, yard.inside(bale, view), wants[view]);
        }
    }

    /** A place with none holds no thing, and what lies behind it counts all the same. */
    private static void insideOfEmptyPlaces() {
        due.says("Promise 11", "How many things GO AS a VIEW");
        CustomsYard yard = Yards.filled(6);
        for (int i = 0; i < 5; i++) {
            yard.put(11, i, CustomsYard.NONE);
            yard.put(8, i, CustomsYard.NONE);
        }
        due.answer(yard, "what lies at the last places alone", yard.inside(11, 13), 1);
        yard.put(8, 5, CustomsYard.NONE);
        due.answer(yard, "an empty SEALED CRATE in it", yard.inside(11, 13), 0);
        due.answer(yard, "the CRATE still stands there", yard.inside(11, 7), 1);
        yard.put(11, 5, CustomsYard.NONE);
        due.answer(yard, "nothing in it", yard.inside(11, 7), 0);
        CustomsYard bare = Yards.oneOfEach(0);
        due.answer(bare, "no places", bare.inside(11, 7), 0);
        due.answer(bare, "the row itself", bare.inside(11, 12), 1);
    }

    /** The most that can lie in one LOAD. */
    private static void insideOfTheFullest() {
        due.says("Promise 11", "what is in it, in that, ..");
        CustomsYard yard = Yards.filled(6);
        int[] wants = {0, 0, 0, 0, 36, 36, 0, 6, 6, 6, 1, 1, 1, 36};
        for (int view = 0; view <= 13; view++) {
            due.answer(yard, "inside(11, " + view + ")", yard.inside(11, view), wants[view]);
        }
    }

    private static void insideOfNoLoadOrView() {
        due.says("Promise 11", "BAD.");
        badOfNoLoadOrView("inside", CustomsYard::inside);
    }
}
