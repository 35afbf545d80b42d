/** The Terms: what GOES AS what, what comes of it, THE WEIGHT; and the calls that an object is used for. */
public final class TermsTest {
    private static final int MIN = Yards.MIN, MAX = Yards.MAX;
    private static final Due due = new Due();

    public static void main(String[] args) {
        callsUpToTheLast();
        declaredIsAViewButNoSort();
        goesAsItsListAndNothingElse();
        aRowIsNotWhatLiesInIt();
        aRowStaysWhatItIs();
        toTakeAsWhatItGoesAs();
        rowsComeAsTheirPlaces();
        piecesComeAsTheirWeight();
        declarations();
        weightOfNumbers();
        weightOfPieces();
        weightOfThings();
        weightOfNone();
        weightBeyondAnInt();
        due.end();
    }

    /** Each counter is driven by all the calls that are left, and asked by the last of them. */
    private static void callsUpToTheLast() {
        due.says("What it is", "An object is used for at most 512 calls after it has been made");
        CustomsYard passes = Yards.oneLoad(4, 1000);
        CustomsYard turns = Yards.oneLoad(6, 1000);
        passes.gate(0, 4);
        turns.gate(0, 4);
        for (int call = 3; call < 512; call++) {
            due.is("pass, call " + call, passes.pass(0, 0), 1);
            due.is("pass of a LETTER, call " + call, turns.pass(0, 0), 0);
        }
        due.is("passed, the 512th call", passes.passed(0), 509_000);
        due.is("count(4), the 512th call", turns.count(4), 509);
        CustomsYard[] refused = {Yards.oneLoad(4, 1), Yards.oneLoad(0, 1), Yards.oneOfEach(1)};
        for (int call = 14; call < 512; call++) {
            refused[0].set(0, 0, 1);
            refused[1].set(0, 1, 1);
            refused[2].put(8, 0, 4);
        }
        for (int i = 0; i < refused.length; i++) {
            due.is("count(" + (i + 1) + "), the last call", refused[i].count(i + 1), 498);
        }
    }

    private static void declaredIsAViewButNoSort() {
        due.says("Terms", "VIEWS are the SORTS and 13 DECLARED.");
        CustomsYard yard = Yards.oneLoad(5, 1);
        due.refusal(yard, "load(13, 1)", yard.load(13, 1), CustomsYard.BAD);
        due.answer(yard, "is(0, 0)", yard.is(0, 0), 0);
        due.answer(yard, "is(0, 13)", yard.is(0, 13), 1);
        due.answer(yard, "gate(0, 0)", yard.gate(0, 0), CustomsYard.NONE);
        due.answer(yard, "gate(0, 13)", yard.gate(0, 13), 0);
        due.answer(yard, "tariff(0, 1)", yard.tariff(0, 1), 1);
        due.answer(yard, "tariff(13, 1)", yard.tariff(13, 1), 2);
        for (int view : Yards.NO_VIEW) {
            due.refusal(yard, "is(0, " + view + ")", yard.is(0, view), CustomsYard.BAD);
            due.refusal(yard, "tariff(" + view + ", 1)", yard.tariff(view, 1), CustomsYard.BAD);
        }
    }

    private static void goesAsItsListAndNothingElse() {
        due.says("Terms", "A LOAD GOES AS its own SORT; 5 also as 4, 13; 6 as 13; 8 as 7, 9; 11 as 10, 12; as nothing else.");
        for (int sort = 0; sort <= 12; sort++) {
            for (int view = 0; view <= 13; view++) {
                CustomsYard yard = Yards.oneLoad(sort, 3);
                int goes = Yards.goesAs(sort, view) ? 1 : 0;
                String which = " of SORT " + sort + " with VIEW " + view;
                yard.gate(0, view);
                yard.tariff(view, 1);
                due.answer(yard, "is" + which, yard.is(0, view), goes);
                due.answer(yard, "inside" + which, yard.inside(0, view), goes);
                due.answer(yard, "pass" + which, yard.pass(0, 0), goes);
                due.answer(yard, "line" + which, yard.line(0), goes == 1 ? 0 : CustomsYard.NONE);
            }
        }
    }

    private static void aRowIsNotWhatLiesInIt() {
        due.says("Terms", "(So a CRATE is no PARCEL, SHELVES no GRAINS, a SEALED CRATE not what is DECLARED, though all in it is.)");
        CustomsYard yard = Yards.filled(6);
        int[][] pairs = {{7, 4}, {3, 0}, {8, 13}, {8, 5}, {9, 13}, {10, 7}, {11, 8}, {12, 9}, {11, 9}, {11, 13}};
        for (int[] pair : pairs) {
            String which = "(" + pair[0] + ", " + pair[1] + ")";
            due.answer(yard, "is" + which, yard.is(pair[0], pair[1]), 0);
            due.refusal(yard, "take" + which, yard.take(pair[0], pair[1]), CustomsYard.CAST);
        }
        due.answer(yard, "though all in it is", yard.inside(8, 13), 6);
    }

    /** Whatever lies in it: not even where all that a CRATE holds is SEALED. */
    private static void aRowStaysWhatItIs() {
        due.says("Terms", "as nothing else.");
        CustomsYard yard = Yards.oneOfEach(1);
        yard.put(7, 0, 5);
        yard.put(9, 0, 5);
        yard.put(10, 0, 8);
        yard.put(12, 0, 8);
        int[][] pairs = {{7, 8}, {7, 9}, {9, 8}, {9, 7}, {10, 11}, {10, 12}, {12, 11}, {12, 10}};
        for (int[] pair : pairs) {
            due.answer(yard, "is(" + pair[0] + ", " + pair[1] + ")", yard.is(pair[0], pair[1]), 0);
        }
    }

    private static void toTakeAsWhatItGoesAs() {
        due.says("Terms", "TO TAKE a LOAD AS a VIEW: it GOES AS this; else CAST.");
        for (int sort = 0; sort <= 12; sort++) {
            CustomsYard yard = Yards.oneLoad(sort, 3);
            yard.hold(0, 0);
            for (int view = 0; view <= 13; view++) {
                String which = " of SORT " + sort + " with VIEW " + view;
                int why = Yards.goesAs(sort, view) ? 0 : CustomsYard.CAST;
                due.is("take" + which + " below 0", Math.min(0, yard.take(0, view)), why);
                due.is("refused() by take" + which, yard.refused(), why);
                due.is("bay" + which + " below 0", Math.min(0, yard.bay(0, view)), why);
                due.is("refused() by bay" + which, yard.refused(), why);
            }
        }
    }

    private static void rowsComeAsTheirPlaces() {
        due.says("Terms", "What comes: of rows how many places they have");
        int[][] views = {{0}, {1}, {2}, {3}, {}, {}, {}, {7}, {8, 7, 9}, {9}, {10}, {11, 10, 12}, {12}};
        for (int n : new int[] {0, 1, 5, 6}) {
            CustomsYard bare = Yards.oneOfEach(n), full = Yards.filled(n);
            for (int sort = 0; sort <= 12; sort++) {
                for (int view : views[sort]) {
                    String which = "take(" + sort + ", " + view + ") of " + n + " places";
                    due.answer(bare, which + " with none", bare.take(sort, view), n);
                    due.answer(full, which + " with things", full.take(sort, view), n);
                }
            }
        }
    }

    private static void piecesComeAsTheirWeight() {
        due.says("Terms", "of 4, 5, 6 the WEIGHT");
        int[][] pairs = {{4, 4}, {5, 5}, {5, 4}, {6, 6}};
        for (int n : new int[] {0, 1, 999, 1000}) {
            for (int[] pair : pairs) {
                CustomsYard yard = Yards.oneLoad(pair[0], n);
                due.answer(yard, "take of SORT " + pair[0] + " AS " + pair[1], yard.take(0, pair[1]), n);
            }
        }
    }

    private static void declarations() {
        due.says("Terms", "of 13 the DECLARATION: of a SEALED one its WEIGHT and 1000, of a LETTER twice its WEIGHT.");
        for (int n : new int[] {0, 1, 999, 1000}) {
            CustomsYard sealed = Yards.oneLoad(5, n), letter = Yards.oneLoad(6, n);
            due.answer(sealed, "take of a SEALED one of " + n, sealed.take(0, 13), n + 1000);
            due.answer(letter, "take of a LETTER of " + n, letter.take(0, 13), 2 * n);
        }
    }

    private static void weightOfNumbers() {
        due.says("Terms", "THE WEIGHT of a row of numbers is their sum");
        CustomsYard yard = Yards.oneOfEach(6);
        for (int row : Yards.NUMBERS) {
            due.answer(yard, "weight of zeros", yard.weight(row), 0);
            for (int i = 0; i < 6; i++) {
                yard.set(row, i, i - 10);
            }
            due.answer(yard, "weight(" + row + ")", yard.weight(row), -45);
            yard.set(row, 5, 45);
            due.answer(yard, "weight(" + row + ") of a sum of 5", yard.weight(row), 5);
            yard.set(row, 0, -15);
            due.answer(yard, "weight(" + row + ") of a sum of 0", yard.weight(row), 0);
        }
    }

    private static void weightOfPieces() {
        due.says("Terms", "of 4, 5, 6 as told");
        for (int sort = 4; sort <= 6; sort++) {
            for (int n : new int[] {0, 1, 1000}) {
                CustomsYard yard = Yards.oneLoad(sort, n);
                due.answer(yard, "weight of SORT " + sort, yard.weight(0), n);
            }
        }
    }

    private static void weightOfThings() {
        due.says("Terms", "of a row of things the sum of the WEIGHTS in it");
        CustomsYard yard = new CustomsYard();
        int parcel = yard.load(4, 1000), sealed = yard.load(5, 30), letter = yard.load(6, 7);
        int crate = yard.load(7, 3), sealedCrate = yard.load(8, 2), bundle = yard.load(9, 3);
        int stack = yard.load(10, 3), sealedStack = yard.load(11, 2), bale = yard.load(12, 2);
        yard.put(crate, 0, parcel);
        yard.put(crate, 2, sealed);
        due.answer(yard, "weight of a CRATE", yard.weight(crate), 1030);
        yard.put(sealedCrate, 0, sealed);
        yard.put(sealedCrate, 1, sealed);
        due.answer(yard, "weight of a SEALED CRATE with one twice", yard.weight(sealedCrate), 60);
        yard.put(bundle, 0, letter);
        yard.put(bundle, 1, sealed);
        due.answer(yard, "weight of a BUNDLE, no DECLARATION", yard.weight(bundle), 37);
        yard.put(stack, 0, crate);
        yard.put(stack, 1, sealedCrate);
        due.answer(yard, "weight of a STACK", yard.weight(stack), 1090);
        yard.put(sealedStack, 1, sealedCrate);
        due.answer(yard, "weight of a SEALED STACK", yard.weight(sealedStack), 60);
        yard.put(bale, 0, bundle);
        yard.put(bale, 1, sealedCrate);
        due.answer(yard, "weight of a BALE", yard.weight(bale), 97);
        yard.put(sealedCrate, 0, CustomsYard.NONE);
        due.answer(yard, "a BALE follows what lies in it", yard.weight(bale), 67);
        due.answer(yard, "a STACK follows what lies in it", yard.weight(stack), 1060);
    }

    private static void weightOfNone() {
        due.says("Terms", "(none: 0)");
        CustomsYard bare = Yards.oneOfEach(0), empty = Yards.oneOfEach(6);
        for (int row : Yards.THINGS) {
            due.answer(bare, "weight of SORT " + row + " without places", bare.weight(row), 0);
            due.answer(empty, "weight of SORT " + row + " with none", empty.weight(row), 0);
        }
        for (int row : Yards.NUMBERS) {
            due.answer(bare, "weight of SORT " + row + " without places", bare.weight(row), 0);
        }
        for (int i = 0; i < 6; i++) {
            empty.put(11, i, 8);
        }
        due.answer(empty, "weight of a SEALED STACK of empty CRATES", empty.weight(11), 0);
        empty.put(8, 5, 5);
        due.answer(empty, "weight with something at the last place alone", empty.weight(11), 36);
    }

    /** 512 calls with ints come nowhere near the edge of a long: what can be seen is that an int's edge is none. */
    private static void weightBeyondAnInt() {
        due.says("Terms", "in longs that wrap");
        for (int v : new int[] {MAX, MIN}) {
            CustomsYard yard = Yards.filled(6);
            for (int i = 0; i < 6; i++) {
                yard.set(0, i, v);
                yard.set(2, i, v);
            }
            due.answer(yard, "weight of GRAINS of " + v, yard.weight(0), 6L * v);
            due.answer(yard, "weight of LIQUIDS of " + v, yard.weight(2), 6L * v);
            due.answer(yard, "weight of SHELVES of " + v, yard.weight(3), 36L * v);
            yard.gate(0, 3);
            yard.pass(3, 0);
            yard.pass(3, 0);
            due.answer(yard, "passed of SHELVES of " + v, yard.passed(0), 72L * v);
        }
    }
}
