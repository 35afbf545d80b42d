/** Yards to begin a test with, and the numbers at the edges of what they take. */
final class Yards {
    static final int MIN = Integer.MIN_VALUE, MAX = Integer.MAX_VALUE;

    /** The VIEWS are 0 .. 13. */
    static final int[] NO_VIEW = outside(0, 13);

    /** The rows of numbers, and the rows of things. */
    static final int[] NUMBERS = {0, 1, 2}, THINGS = {3, 7, 8, 9, 10, 11, 12};

    /** By SORT the VIEWS that it goes as, as the Terms list them. */
    private static final int[][] GOES_AS = {
        {0}, {1}, {2}, {3}, {4}, {5, 4, 13}, {6, 13}, {7}, {8, 7, 9}, {9}, {10}, {11, 10, 12}, {12}
    };

    private Yards() {
    }

    /** What is no number of low .. high: those next to it, and those farthest off. */
    static int[] outside(int low, int high) {
        return new int[] {low - 1, high + 1, MIN, MAX};
    }

    /** A PARCEL, a SEALED one or a LETTER. */
    static boolean isPiece(int sort) {
        return sort >= 4 && sort <= 6;
    }

    static boolean goesAs(int sort, int view) {
        for (int as : GOES_AS[sort]) {
            if (as == view) {
                return true;
            }
        }
        return false;
    }

    static CustomsYard oneLoad(int sort, int n) {
        CustomsYard yard = new CustomsYard();
        yard.load(sort, n);
        return yard;
    }

    /** Thirteen LOADS, the LOAD's number being its SORT. */
    static CustomsYard oneOfEach(int n) {
        CustomsYard yard = new CustomsYard();
        for (int sort = 0; sort <= 12; sort++) {
            yard.load(sort, n);
        }
        return yard;
    }

    /** One of each, and in each row of things, at every place, one of the first SORT that it keeps. */
    static CustomsYard filled(int n) {
        CustomsYard yard = oneOfEach(n);
        int[][] kept = {{3, 0}, {7, 4}, {8, 5}, {9, 5}, {10, 7}, {11, 8}, {12, 9}};
        for (int[] pair : kept) {
            for (int i = 0; i < n; i++) {
                yard.put(pair[0], i, pair[1]);
            }
        }
        return yard;
    }
}
