import java.lang.reflect.Array;
import java.util.ArrayList;
import java.util.List;

/**
 * Long runs against a second yard that holds real Java objects and arrays and asks Java's own types,
 * so that what GOES AS what is not written down a second time.
 */
public final class ModelTest {
    private static final int RUNS = 3000;
    /** A call and its refused() are two of the 512 calls that an object has; six are left for count(). */
    private static final int STEPS = 250;
    private static final Due due = new Due();

    interface Declared {
        int declaration();
    }

    static class Parcel {
        final int weight;

        Parcel(int weight) {
            this.weight = weight;
        }
    }

    static final class Sealed extends Parcel implements Declared {
        Sealed(int weight) {
            super(weight);
        }

        @Override
        public int declaration() {
            return weight + 1000;
        }
    }

    static final class Letter implements Declared {
        final int weight;

        Letter(int weight) {
            this.weight = weight;
        }

        @Override
        public int declaration() {
            return 2 * weight;
        }
    }

    private static final Class<?>[] VIEWS = {
        int[].class, byte[].class, long[].class, int[][].class, Parcel.class, Sealed.class, Letter.class,
        Parcel[].class, Sealed[].class, Declared[].class, Parcel[][].class, Sealed[][].class, Declared[][].class,
        Declared.class
    };

    /** The rows of things as the yard would write to them: a Sealed[] is written to as a Parcel[]. */
    private static final Class<?>[] WRITTEN_AS = {
        int[][].class, Parcel[].class, Declared[].class, Parcel[][].class, Declared[][].class
    };

    static final class Model {
        final List<Object> loads = new ArrayList<>();
        final Object[] bays = new Object[12];
        final int[] gates = {-1, -1, -1, -1, -1, -1};
        final long[] passed = new long[6];
        final List<int[]> lines = new ArrayList<>();
        final int[] refusals = new int[7];
        int turned;
        int refused;

        long call(int which, int a, int b, int c) {
            refused = 0;
            switch (which) {
                case 0: return load(a, b);
                case 1: return set(a, b, c);
                case 2: return number(a, b);
                case 3: return put(a, b, c);
                case 4: return at(a, b);
                case 5: return !isLoad(a) || !isView(b) ? refuse(-2) : VIEWS[b].isInstance(loads.get(a)) ? 1 : 0;
                case 6: return !isLoad(a) || !isView(b) ? refuse(-2) : take(loads.get(a), b);
                case 7: return !isLoad(a) ? refuse(-2) : sort(loads.get(a));
                case 8: return !isLoad(a) ? zero(-2) : weight(loads.get(a));
                case 9: return !isLoad(a) || !isView(b) ? refuse(-2) : inside(loads.get(a), VIEWS[b]);
                case 10: return hold(a, b);
                case 11: return !in(a, 12) || !isView(b) ? refuse(-2) : bays[a] == null ? -1 : take(bays[a], b);
                case 12: return gate(a, b);
                case 13: return pass(a, b);
                case 14: return !in(a, 6) ? zero(-2) : passed[a];
                case 15: return tariff(a, b);
                case 16: return !isLoad(a) ? zero(-2) : duty(loads.get(a));
                default: return !isLoad(a) ? refuse(-2) : line(loads.get(a));
            }
        }

        long refuse(int why) {
            refused = why;
            refusals[-why]++;
            return why;
        }

        long zero(int why) {
            refuse(why);
            return 0;
        }

        static boolean in(int i, int end) {
            return i >= 0 && i < end;
        }

        boolean isLoad(int load) {
            return in(load, loads.size());
        }

        static boolean isView(int view) {
            return in(view, 14);
        }

        long load(int sort, int n) {
            boolean piece = sort >= 4 && sort <= 6;
            if (!in(sort, 13) || !in(n, piece ? 1001 : 7)) {
                return refuse(-2);
            }
            if (loads.size() == 80) {
                return refuse(-3);
            }
            loads.add(sort == 4 ? new Parcel(n) : sort == 5 ? new Sealed(n) : sort == 6 ? new Letter(n)
                : Array.newInstance(VIEWS[sort].getComponentType(), n));
            return loads.size() - 1;
        }

        static boolean isNumbers(Object o) {
            return o.getClass().isArray() && o.getClass().getComponentType().isPrimitive();
        }

        long set(int load, int i, int v) {
            if (!isLoad(load)) {
                return refuse(-2);
            }
            Object o = loads.get(load);
            if (!isNumbers(o)) {
                return refuse(-4);
            }
            if (!in(i, Array.getLength(o))) {
                return refuse(-5);
            }
            if (o instanceof byte[] dust) {
                dust[i] = (byte) v;
            } else {
                Array.set(o, i, v);
            }
            return 1;
        }

        long number(int load, int i) {
            if (!isLoad(load)) {
                return zero(-2);
            }
            Object o = loads.get(load);
            if (!isNumbers(o)) {
                return zero(-4);
            }
            return in(i, Array.getLength(o)) ? Array.getLong(o, i) : zero(-5);
        }

        static Class<?> writtenAs(Object row) {
            for (Class<?> as : WRITTEN_AS) {
                if (as.isInstance(row)) {
                    return as;
                }
            }
            return null;
        }

        long put(int load, int i, int other) {
            if (!isLoad(load) || (other != -1 && !isLoad(other))) {
                return refuse(-2);
            }
            Class<?> as = writtenAs(loads.get(load));
            Object thing = other == -1 ? null : loads.get(other);
            if (as == null || (thing != null && !as.getComponentType().isInstance(thing))) {
                return refuse(-4);
            }
            Object[] row = (Object[]) loads.get(load);
            if (!in(i, row.length)) {
                return refuse(-5);
            }
            if (thing != null && !row.getClass().getComponentType().isInstance(thing)) {
                return refuse(-6);
            }
            row[i] = thing;
            return 1;
        }

        int find(Object o) {
            for (int i = 0; i < loads.size(); i++) {
                if (loads.get(i) == o) {
                    return i;
                }
            }
            return -1;
        }

        long at(int load, int i) {
            if (!isLoad(load)) {
                return refuse(-2);
            }
            if (!(loads.get(load) instanceof Object[] row)) {
                return refuse(-4);
            }
            return in(i, row.length) ? find(row[i]) : refuse(-5);
        }

        static long comes(Object o, int view) {
            if (o.getClass().isArray()) {
                return Array.getLength(o);
            }
            return view == 13 ? ((Declared) o).declaration() : weight(o);
        }

        long take(Object o, int view) {
            return VIEWS[view].isInstance(o) ? comes(o, view) : refuse(-4);
        }

        static int sort(Object o) {
            int sort = 0;
            while (VIEWS[sort] != o.getClass()) {
                sort++;
            }
            return sort;
        }

        static long weight(Object o) {
            if (o == null) {
                return 0;
            }
            if (o instanceof Parcel parcel) {
                return parcel.weight;
            }
            if (o instanceof Letter letter) {
                return letter.weight;
            }
            long sum = 0;
            for (int i = 0; i < Array.getLength(o); i++) {
                sum += isNumbers(o) ? Array.getLong(o, i) : weight(Array.get(o, i));
            }
            return sum;
        }

        static int inside(Object o, Class<?> view) {
            int sum = view.isInstance(o) ? 1 : 0;
            if (o instanceof Object[] row) {
                for (Object thing : row) {
                    sum += inside(thing, view);
                }
            }
            return sum;
        }

        long hold(int bay, int load) {
            if (!in(bay, 12) || (load != -1 && !isLoad(load))) {
                return refuse(-2);
            }
            int before = find(bays[bay]);
            bays[bay] = load == -1 ? null : loads.get(load);
            return before;
        }

        long gate(int gate, int view) {
            if (!in(gate, 6) || (view != -1 && !isView(view))) {
                return refuse(-2);
            }
            int before = gates[gate];
            gates[gate] = view;
            passed[gate] = 0;
            return before;
        }

        long pass(int load, int gate) {
            if (!isLoad(load) || !in(gate, 6) || gates[gate] == -1) {
                return refuse(-2);
            }
            if (!VIEWS[gates[gate]].isInstance(loads.get(load))) {
                turned++;
                return 0;
            }
            passed[gate] += weight(loads.get(load));
            return 1;
        }

        long tariff(int view, int rate) {
            if (!isView(view) || rate < -100 || rate > 100) {
                return refuse(-2);
            }
            if (lines.size() == 10) {
                return refuse(-3);
            }
            lines.add(new int[] {view, rate});
            return lines.size();
        }

        int line(Object o) {
            for (int i = 0; i < lines.size(); i++) {
                if (VIEWS[lines.get(i)[0]].isInstance(o)) {
                    return i;
                }
            }
            return -1;
        }

        long duty(Object o) {
            int i = line(o);
            return i < 0 ? 0 : lines.get(i)[1] * comes(o, lines.get(i)[0]);
        }

        int[] counts() {
            return new int[] {loads.size(), refusals[4], refusals[5], refusals[6], turned, lines.size()};
        }
    }

    /** Numbers that are the same in every run of the test. */
    private static long seed;

    private static int below(int end) {
        seed = seed * 6364136223846793005L + 1442695040888963407L;
        return (int) ((seed >>> 33) % end);
    }

    private static int oneOf(int... values) {
        return values[below(values.length)];
    }

    /** Mostly 0 .. end - 1, now and then what is beside it or far off. */
    private static int near(int end) {
        int dice = below(24);
        if (dice == 0) {
            return oneOf(-1, -2, end, end + 1, Integer.MIN_VALUE, Integer.MAX_VALUE);
        }
        return end == 0 ? 0 : below(end);
    }

    private static int noneOrNear(int end) {
        return below(8) == 0 ? -1 : near(end);
    }

    private static int[] arguments(int which, int loads) {
        switch (which) {
            case 0: {
                int sort = near(13);
                return new int[] {sort, sort >= 4 && sort <= 6 ? near(1001) : near(7), 0};
            }
            case 1: return new int[] {near(loads), near(6), oneOf(below(9) - 4, below(1000) - 500, Integer.MAX_VALUE, Integer.MIN_VALUE)};
            case 3: return new int[] {near(loads), near(6), noneOrNear(loads)};
            case 2: case 4: return new int[] {near(loads), near(6), 0};
            case 10: return new int[] {near(12), noneOrNear(loads), 0};
            case 11: return new int[] {near(12), near(14), 0};
            case 12: return new int[] {near(6), noneOrNear(14), 0};
            case 13: return new int[] {near(loads), near(6), 0};
            case 14: return new int[] {near(6), 0, 0};
            case 15: return new int[] {near(14), near(201) - 100, 0};
            default: return new int[] {near(loads), near(14), 0};
        }
    }

    static final String[] NAMES = {"load", "set", "number", "put", "at", "is", "take", "sort", "weight", "inside",
        "hold", "bay", "gate", "pass", "passed", "tariff", "duty", "line"};

    static long call(CustomsYard yard, int which, int a, int b, int c) {
        switch (which) {
            case 0: return yard.load(a, b);
            case 1: return yard.set(a, b, c);
            case 2: return yard.number(a, b);
            case 3: return yard.put(a, b, c);
            case 4: return yard.at(a, b);
            case 5: return yard.is(a, b);
            case 6: return yard.take(a, b);
            case 7: return yard.sort(a);
            case 8: return yard.weight(a);
            case 9: return yard.inside(a, b);
            case 10: return yard.hold(a, b);
            case 11: return yard.bay(a, b);
            case 12: return yard.gate(a, b);
            case 13: return yard.pass(a, b);
            case 14: return yard.passed(a);
            case 15: return yard.tariff(a, b);
            case 16: return yard.duty(a);
            default: return yard.line(a);
        }
    }

    /** Early calls fill the yard; put comes most often, so that rows of rows get something in them. */
    private static int nextCall(int step, int filling) {
        if (step < filling) {
            return 0;
        }
        return below(3) == 0 ? 3 : below(NAMES.length);
    }

    private static void run(int run) {
        seed = run;
        CustomsYard yard = new CustomsYard();
        Model model = new Model();
        int filling = below(90);
        for (int step = 0; step < STEPS; step++) {
            int which = nextCall(step, filling);
            int[] a = arguments(which, model.loads.size());
            String told = "run " + run + ", step " + step + ": " + NAMES[which] + " of " + a[0] + ", " + a[1] + ", " + a[2];
            long want = model.call(which, a[0], a[1], a[2]);
            due.is(told, call(yard, which, a[0], a[1], a[2]), want);
            due.is(told + ", then refused()", yard.refused(), model.refused);
        }
        int[] counts = model.counts();
        for (int what = 0; what < counts.length; what++) {
            due.is("run " + run + ": count(" + what + ")", yard.count(what), counts[what]);
            reached[what] |= counts[what] > 0;
        }
    }

    private static final boolean[] reached = new boolean[6];

    public static void main(String[] args) {
        for (int run = 1; run <= RUNS; run++) {
            run(run);
        }
        for (int what = 0; what < reached.length; what++) {
            due.is("whether the runs came to count(" + what + ")", reached[what] ? 1 : 0, 1);
        }
        due.end();
    }
}
