import java.util.Arrays;

/** A customs yard: LOADS of thirteen SORTS, the VIEWS they go as, BAYS, GATES and a TARIFF. */
public final class CustomsYard {
    public static final int NONE = -1, BAD = -2, FULL = -3, CAST = -4, INDEX = -5, STORE = -6;

    private static final int GRAINS = 0, DUST = 1, LIQUIDS = 2, SHELVES = 3, PARCEL = 4, SEALED = 5, LETTER = 6;
    private static final int CRATE = 7, SEALED_CRATE = 8, BUNDLE = 9, STACK = 10, SEALED_STACK = 11, BALE = 12;
    private static final int DECLARED = 13;

    private static final int MOST_LOADS = 80;
    private static final int MOST_PLACES = 6;
    private static final int MOST_WEIGHT = 1000;
    private static final int DECLARED_FOR_A_SEAL = 1000;
    private static final int MOST_LINES = 10;
    private static final int MOST_RATE = 100;
    private static final int BAYS = 12;
    private static final int GATES = 6;

    /** A STACK has CRATES in it and these have PARCELS; what put() refuses keeps everything this shallow. */
    private static final int LEVELS = 3;

    private final Load[] loads = new Load[MOST_LOADS];
    private int loadCount;

    private final Load[] bays = new Load[BAYS];

    private final int[] gateViews = new int[GATES];
    private final long[] gateWeights = new long[GATES];

    private final int[] lineViews = new int[MOST_LINES];
    private final int[] lineRates = new int[MOST_LINES];
    private int lineCount;

    private int refusal;
    private int casts;
    private int indexes;
    private int stores;
    private int turnedAway;

    public CustomsYard() {
        Arrays.fill(gateViews, NONE);
    }

    public int load(int sort, int n) {
        refusal = 0;
        if (sort < GRAINS || sort > BALE || n < 0 || n > mostOf(sort)) {
            return refuse(BAD);
        }
        if (loadCount >= MOST_LOADS) {
            return refuse(FULL);
        }
        int number = loadCount;
        loads[number] = makeLoad(number, sort, n);
        loadCount++;
        return number;
    }

    public int set(int load, int i, int v) {
        refusal = 0;
        Numbers row = numbersWith(load, i);
        if (row == null) {
            return refusal;
        }
        row.places[i] = row.sort == DUST ? (byte) v : v;
        return 1;
    }

    public long number(int load, int i) {
        refusal = 0;
        Numbers row = numbersWith(load, i);
        return row == null ? 0 : row.places[i];
    }

    public int put(int load, int i, int other) {
        refusal = 0;
        Load found = find(load);
        Load thing = find(other);
        if (found == null || (thing == null && other != NONE)) {
            return refuse(BAD);
        }
        if (!(found instanceof Things row)) {
            return refuse(CAST);
        }
        if (thing != null && !thing.goesAs(row.viewAsked())) {
            return refuse(CAST);
        }
        if (!row.hasPlace(i)) {
            return refuse(INDEX);
        }
        if (thing != null && !thing.goesAs(row.viewKept())) {
            return refuse(STORE);
        }
        row.places[i] = thing;
        return 1;
    }

    public int at(int load, int i) {
        refusal = 0;
        Load found = find(load);
        if (found == null) {
            return refuse(BAD);
        }
        if (!(found instanceof Things row)) {
            return refuse(CAST);
        }
        if (!row.hasPlace(i)) {
            return refuse(INDEX);
        }
        return numberOf(row.places[i]);
    }

    public int is(int load, int view) {
        refusal = 0;
        Load found = find(load);
        if (found == null || !isView(view)) {
            return refuse(BAD);
        }
        return found.goesAs(view) ? 1 : 0;
    }

    public int take(int load, int view) {
        refusal = 0;
        Load found = find(load);
        if (found == null || !isView(view)) {
            return refuse(BAD);
        }
        return takeAs(found, view);
    }

    public int sort(int load) {
        refusal = 0;
        Load found = find(load);
        if (found == null) {
            return refuse(BAD);
        }
        return found.sort;
    }

    public long weight(int load) {
        refusal = 0;
        Load found = find(load);
        if (found == null) {
            refuse(BAD);
            return 0;
        }
        return found.weigh(LEVELS);
    }

    public int inside(int load, int view) {
        refusal = 0;
        Load found = find(load);
        if (found == null || !isView(view)) {
            return refuse(BAD);
        }
        return found.tally(view, LEVELS);
    }

    public int hold(int bay, int load) {
        refusal = 0;
        Load found = find(load);
        if (!isBay(bay) || (found == null && load != NONE)) {
            return refuse(BAD);
        }
        int before = numberOf(bays[bay]);
        bays[bay] = found;
        return before;
    }

    public int bay(int bay, int view) {
        refusal = 0;
        if (!isBay(bay) || !isView(view)) {
            return refuse(BAD);
        }
        Load held = bays[bay];
        if (held == null) {
            return NONE;
        }
        return takeAs(held, view);
    }

    public int gate(int gate, int view) {
        refusal = 0;
        if (!isGate(gate) || (!isView(view) && view != NONE)) {
            return refuse(BAD);
        }
        int before = gateViews[gate];
        gateViews[gate] = view;
        gateWeights[gate] = 0;
        return before;
    }

    public int pass(int load, int gate) {
        refusal = 0;
        Load found = find(load);
        if (found == null || !isGate(gate) || gateViews[gate] == NONE) {
            return refuse(BAD);
        }
        if (!found.goesAs(gateViews[gate])) {
            turnedAway++;
            return 0;
        }
        gateWeights[gate] += found.weigh(LEVELS);
        return 1;
    }

    public long passed(int gate) {
        refusal = 0;
        if (!isGate(gate)) {
            refuse(BAD);
            return 0;
        }
        return gateWeights[gate];
    }

    public int tariff(int view, int rate) {
        refusal = 0;
        if (!isView(view) || rate < -MOST_RATE || rate > MOST_RATE) {
            return refuse(BAD);
        }
        if (lineCount >= MOST_LINES) {
            return refuse(FULL);
        }
        lineViews[lineCount] = view;
        lineRates[lineCount] = rate;
        lineCount++;
        return lineCount;
    }

    public int duty(int load) {
        refusal = 0;
        Load found = find(load);
        if (found == null) {
            refuse(BAD);
            return 0;
        }
        int decides = lineFor(found);
        if (decides == NONE) {
            return 0;
        }
        return lineRates[decides] * found.comesAs(lineViews[decides]);
    }

    public int line(int load) {
        refusal = 0;
        Load found = find(load);
        if (found == null) {
            return refuse(BAD);
        }
        return lineFor(found);
    }

    public int refused() {
        return refusal;
    }

    public int count(int what) {
        switch (what) {
            case 0: return loadCount;
            case 1: return casts;
            case 2: return indexes;
            case 3: return stores;
            case 4: return turnedAway;
            case 5: return lineCount;
            // Not through refuse(): refused() tells nothing of this call.
            default: return BAD;
        }
    }

    private int refuse(int why) {
        refusal = why;
        if (why == CAST) {
            casts++;
        } else if (why == INDEX) {
            indexes++;
        } else if (why == STORE) {
            stores++;
        }
        return why;
    }

    /** The LOAD of this number; null: there is none. */
    private Load find(int load) {
        return load >= 0 && load < loads.length ? loads[load] : null;
    }

    /** The row of numbers that has a place i; null where the call is refused. */
    private Numbers numbersWith(int load, int i) {
        Load found = find(load);
        if (found == null) {
            refuse(BAD);
            return null;
        }
        if (!(found instanceof Numbers row)) {
            refuse(CAST);
            return null;
        }
        if (!row.hasPlace(i)) {
            refuse(INDEX);
            return null;
        }
        return row;
    }

    private int takeAs(Load found, int view) {
        return found.goesAs(view) ? found.comesAs(view) : refuse(CAST);
    }

    private int lineFor(Load found) {
        for (int i = 0; i < lineCount; i++) {
            if (found.goesAs(lineViews[i])) {
                return i;
            }
        }
        return NONE;
    }

    private static int numberOf(Load found) {
        return found == null ? NONE : found.number;
    }

    private static boolean isView(int view) {
        return view >= GRAINS && view <= DECLARED;
    }

    private static boolean isBay(int bay) {
        return bay >= 0 && bay < BAYS;
    }

    private static boolean isGate(int gate) {
        return gate >= 0 && gate < GATES;
    }

    private static boolean hasWeightTold(int sort) {
        return sort == PARCEL || sort == SEALED || sort == LETTER;
    }

    private static int mostOf(int sort) {
        return hasWeightTold(sort) ? MOST_WEIGHT : MOST_PLACES;
    }

    private static Load makeLoad(int number, int sort, int n) {
        if (hasWeightTold(sort)) {
            return new Piece(number, sort, n);
        }
        if (sort == GRAINS || sort == DUST || sort == LIQUIDS) {
            return new Numbers(number, sort, new long[n]);
        }
        return new Things(number, sort, new Load[n]);
    }

    /** What every LOAD has. How deep a walk may still go is an argument of the walk. */
    private abstract static class Load {
        final int number;
        final int sort;

        Load(int number, int sort) {
            this.number = number;
            this.sort = sort;
        }

        final boolean goesAs(int view) {
            switch (sort) {
                case SEALED: return view == SEALED || view == PARCEL || view == DECLARED;
                case LETTER: return view == LETTER || view == DECLARED;
                case SEALED_CRATE: return view == SEALED_CRATE || view == CRATE || view == BUNDLE;
                case SEALED_STACK: return view == SEALED_STACK || view == STACK || view == BALE;
                default: return view == sort;
            }
        }

        /** What comes of taking it as a VIEW that it goes as. */
        abstract int comesAs(int view);

        abstract long weigh(int levels);

        /** How many things go as the VIEW: itself and all that lies in it. */
        int tally(int view, int levels) {
            return goesAs(view) ? 1 : 0;
        }
    }

    /** A row of numbers. The numbers of DUST are narrowed before they come here, so one kind of row holds all three. */
    private static final class Numbers extends Load {
        final long[] places;

        Numbers(int number, int sort, long[] places) {
            super(number, sort);
            this.places = places;
        }

        boolean hasPlace(int i) {
            return i >= 0 && i < places.length;
        }

        int comesAs(int view) {
            return places.length;
        }

        long weigh(int levels) {
            long sum = 0;
            for (long place : places) {
                sum += place;
            }
            return sum;
        }
    }

    /** A PARCEL, a SEALED one or a LETTER. */
    private static final class Piece extends Load {
        final int told;

        Piece(int number, int sort, int told) {
            super(number, sort);
            this.told = told;
        }

        int comesAs(int view) {
            return view == DECLARED ? declaration() : told;
        }

        private int declaration() {
            return sort == SEALED ? told + DECLARED_FOR_A_SEAL : 2 * told;
        }

        long weigh(int levels) {
            return told;
        }
    }

    /** A row of things; an empty place is null. */
    private static final class Things extends Load {
        final Load[] places;

        Things(int number, int sort, Load[] places) {
            super(number, sort);
            this.places = places;
        }

        boolean hasPlace(int i) {
            return i >= 0 && i < places.length;
        }

        /** What a thing must go as to be offered at all: a SEALED row is offered what its plain row would be. */
        int viewAsked() {
            switch (sort) {
                case SHELVES: return GRAINS;
                case CRATE: case SEALED_CRATE: return PARCEL;
                case BUNDLE: return DECLARED;
                case STACK: case SEALED_STACK: return CRATE;
                default: return BUNDLE;
            }
        }

        /** What a thing must go as to be kept. */
        int viewKept() {
            switch (sort) {
                case SEALED_CRATE: return SEALED;
                case SEALED_STACK: return SEALED_CRATE;
                default: return viewAsked();
            }
        }

        int comesAs(int view) {
            return places.length;
        }

        long weigh(int levels) {
            long sum = 0;
            if (levels <= 1) {
                return sum;
            }
            for (Load place : places) {
                if (place != null) {
                    sum += place.weigh(levels - 1);
                }
            }
            return sum;
        }

        int tally(int view, int levels) {
            int sum = goesAs(view) ? 1 : 0;
            if (levels <= 1) {
                return sum;
            }
            for (Load place : places) {
                if (place != null) {
                    sum += place.tally(view, levels - 1);
                }
            }
            return sum;
        }
    }
}
