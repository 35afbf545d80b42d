import java.util.ArrayList;
import java.util.List;
import java.util.function.ToLongFunction;

/** What the Terms say of refusals, and promises 20 and 21: refused, count. */
public final class RefusalsTest {
    private static final int NONE = CustomsYard.NONE, BAD = CustomsYard.BAD, FULL = CustomsYard.FULL;
    private static final int CAST = CustomsYard.CAST, INDEX = CustomsYard.INDEX, STORE = CustomsYard.STORE;
    private static final Due due = new Due();

    /** A call that is refused in a yard where much has been done. */
    record Refused(String call, ToLongFunction<CustomsYard> made, int answer, int why, boolean full) {
        CustomsYard yard() {
            CustomsYard yard = busy();
            if (full) {
                fill(yard);
            }
            return yard;
        }
    }

    private static final List<Refused> REFUSED = new ArrayList<>();

    public static void main(String[] args) {
        tellRefused();
        badFirst();
        changesNothing();
        countedOneACall();
        refusedByTheLatestCall();
        refusedWhenThereWasNone();
        refusedWhenItWasNot();
        refusedButForRefusedAndCount();
        countOfEach();
        countOfWhatIsNotKept();
        due.end();
    }

    /** Every SORT of LOAD, BAYS, GATES and lines in use; BAY 0 is empty and GATE 5 without a VIEW. */
    static CustomsYard busy() {
        CustomsYard yard = Yards.filled(3);
        for (int row : Yards.NUMBERS) {
            for (int i = 0; i < 3; i++) {
                yard.set(row, i, 10 * row + i + 1);
            }
        }
        for (int bay = 1; bay <= 11; bay++) {
            yard.hold(bay, bay);
        }
        int[] views = {4, 13, 7, 0, 12};
        for (int gate = 0; gate < views.length; gate++) {
            yard.gate(gate, views[gate]);
            for (int load : new int[] {0, 5, 8, 11}) {
                yard.pass(load, gate);
            }
        }
        yard.tariff(5, 3);
        yard.tariff(9, -4);
        yard.tariff(4, 5);
        return yard;
    }

    /** To 80 LOADS and 10 lines. */
    static void fill(CustomsYard yard) {
        for (int load = 13; load < 80; load++) {
            yard.load(4, load);
        }
        for (int line = 3; line < 10; line++) {
            yard.tariff(6, line);
        }
    }

    private static void tell(String call, int why, ToLongFunction<CustomsYard> made) {
        REFUSED.add(new Refused(call, made, why, why, false));
    }

    private static void tellZero(String call, int why, ToLongFunction<CustomsYard> made) {
        REFUSED.add(new Refused(call, made, 0, why, false));
    }

    private static void tellFull(String call, int why, ToLongFunction<CustomsYard> made) {
        REFUSED.add(new Refused(call, made, why, why, true));
    }

    private static void tellRefused() {
        tellNoSuchLoad();
        tellNumberNotAsTold();
        tellBadAndMore();
        tellCast();
        tellIndexAndStore();
        tellFull("load(4, 1)", FULL, y -> y.load(4, 1));
        tellFull("tariff(6, 1)", FULL, y -> y.tariff(6, 1));
    }

    private static void tellNoSuchLoad() {
        for (int none : new int[] {-2, 13, Yards.MIN, Yards.MAX}) {
            String of = " of LOAD " + none;
            tell("set" + of, BAD, y -> y.set(none, 0, 1));
            tellZero("number" + of, BAD, y -> y.number(none, 0));
            tell("put" + of, BAD, y -> y.put(none, 0, 4));
            tell("put, the other" + of, BAD, y -> y.put(7, 0, none));
            tell("at" + of, BAD, y -> y.at(none, 0));
            tell("is" + of, BAD, y -> y.is(none, 4));
            tell("take" + of, BAD, y -> y.take(none, 4));
            tell("sort" + of, BAD, y -> y.sort(none));
            tellZero("weight" + of, BAD, y -> y.weight(none));
            tell("inside" + of, BAD, y -> y.inside(none, 4));
            tell("hold" + of, BAD, y -> y.hold(1, none));
            tell("pass" + of, BAD, y -> y.pass(none, 0));
            tellZero("duty" + of, BAD, y -> y.duty(none));
            tell("line" + of, BAD, y -> y.line(none));
        }
    }

    private static void tellNumberNotAsTold() {
        for (int view : Yards.outside(NONE, 13)) {
            String as = " with VIEW " + view;
            tell("is" + as, BAD, y -> y.is(4, view));
            tell("take" + as, BAD, y -> y.take(4, view));
            tell("inside" + as, BAD, y -> y.inside(4, view));
            tell("bay" + as, BAD, y -> y.bay(4, view));
            tell("gate" + as, BAD, y -> y.gate(0, view));
            tell("tariff" + as, BAD, y -> y.tariff(view, 1));
        }
        tell("load(-1, 1)", BAD, y -> y.load(-1, 1));
        tell("load(13, 1)", BAD, y -> y.load(13, 1));
        tell("load(0, -1)", BAD, y -> y.load(0, -1));
        tell("load(12, 7)", BAD, y -> y.load(12, 7));
        tell("load(4, -1)", BAD, y -> y.load(4, -1));
        tell("load(6, 1001)", BAD, y -> y.load(6, 1001));
        tell("hold(-1, 4)", BAD, y -> y.hold(-1, 4));
        tell("hold(12, NONE)", BAD, y -> y.hold(12, NONE));
        tell("bay(12, 4)", BAD, y -> y.bay(12, 4));
        tell("gate(-1, 4)", BAD, y -> y.gate(-1, 4));
        tell("gate(6, NONE)", BAD, y -> y.gate(6, NONE));
        tell("pass(4, 6)", BAD, y -> y.pass(4, 6));
        tell("pass(4, 5), without a VIEW", BAD, y -> y.pass(4, 5));
        tellZero("passed(6)", BAD, y -> y.passed(6));
        tell("tariff(4, 101)", BAD, y -> y.tariff(4, 101));
        tell("tariff(4, -101)", BAD, y -> y.tariff(4, -101));
    }

    /** What is BAD, and would be refused by something else too. */
    private static void tellBadAndMore() {
        tell("set, INDEX too", BAD, y -> y.set(13, -1, 1));
        tellZero("number, INDEX too", BAD, y -> y.number(13, -1));
        tell("put in no row, CAST too", BAD, y -> y.put(4, 0, 13));
        tell("put, INDEX too", BAD, y -> y.put(8, 3, 13));
        tell("put of a PARCEL, STORE in some rows", BAD, y -> y.put(13, 0, 4));
        tell("at, INDEX too", BAD, y -> y.at(13, -1));
        tell("take, CAST with every VIEW but 7", BAD, y -> y.take(7, 14));
        tell("bay, CAST with every VIEW but 7", BAD, y -> y.bay(7, -1));
        tell("bay, of nothing", BAD, y -> y.bay(0, 14));
        tell("pass, no LOAD and no VIEW", BAD, y -> y.pass(13, 5));
        tellFull("load of no SORT, FULL too", BAD, y -> y.load(13, 1));
        tellFull("load of seven places, FULL too", BAD, y -> y.load(0, 7));
        tellFull("load of a WEIGHT of 1001, FULL too", BAD, y -> y.load(4, 1001));
        tellFull("tariff of no VIEW, FULL too", BAD, y -> y.tariff(14, 1));
        tellFull("tariff of no rate, FULL too", BAD, y -> y.tariff(4, 101));
    }

    private static void tellCast() {
        for (int i : new int[] {0, 3, -1}) {
            String at = " at place " + i;
            tell("set of SHELVES" + at, CAST, y -> y.set(3, i, 1));
            tell("set of a PARCEL" + at, CAST, y -> y.set(4, i, 1));
            tellZero("number of SHELVES" + at, CAST, y -> y.number(3, i));
            tell("put in GRAINS" + at, CAST, y -> y.put(0, i, 0));
            tell("put of none in a PARCEL" + at, CAST, y -> y.put(4, i, NONE));
            tell("put in no row of what goes nowhere" + at, CAST, y -> y.put(5, i, 1));
            tell("put of DUST in SHELVES" + at, CAST, y -> y.put(3, i, 1));
            tell("put of a LETTER in a CRATE" + at, CAST, y -> y.put(7, i, 6));
            tell("put of a LETTER in a SEALED CRATE" + at, CAST, y -> y.put(8, i, 6));
            tell("put of a PARCEL in a BUNDLE" + at, CAST, y -> y.put(9, i, 4));
            tell("put of a BUNDLE in a STACK" + at, CAST, y -> y.put(10, i, 9));
            tell("put of a BUNDLE in a SEALED STACK" + at, CAST, y -> y.put(11, i, 9));
            tell("put of a CRATE in a BALE" + at, CAST, y -> y.put(12, i, 7));
            tell("put of a STACK in itself" + at, CAST, y -> y.put(10, i, 10));
            tell("at of LIQUIDS" + at, CAST, y -> y.at(2, i));
        }
        tell("take of a PARCEL AS SEALED", CAST, y -> y.take(4, 5));
        tell("take of a SEALED CRATE AS DECLARED", CAST, y -> y.take(8, 13));
        tell("bay of a CRATE AS a BUNDLE", CAST, y -> y.bay(7, 9));
    }

    private static void tellIndexAndStore() {
        for (int i : Yards.outside(0, 2)) {
            String at = " at place " + i;
            for (int row : Yards.NUMBERS) {
                tell("set of " + row + at, INDEX, y -> y.set(row, i, 1));
                tellZero("number of " + row + at, INDEX, y -> y.number(row, i));
            }
            for (int row : Yards.THINGS) {
                tell("put of none in " + row + at, INDEX, y -> y.put(row, i, NONE));
                tell("at of " + row + at, INDEX, y -> y.at(row, i));
            }
            tell("put of a PARCEL in a CRATE" + at, INDEX, y -> y.put(7, i, 4));
            tell("put of a PARCEL in a SEALED CRATE" + at, INDEX, y -> y.put(8, i, 4));
            tell("put of a CRATE in a SEALED STACK" + at, INDEX, y -> y.put(11, i, 7));
        }
        for (int i = 0; i <= 2; i++) {
            int place = i;
            tell("put of a PARCEL in a SEALED CRATE at place " + i, STORE, y -> y.put(8, place, 4));
            tell("put of a CRATE in a SEALED STACK at place " + i, STORE, y -> y.put(11, place, 7));
        }
    }

    private static void badFirst() {
        due.says("Terms", "Refusals: BAD (there is no such LOAD, or a number is not as told) first.");
        for (Refused refused : REFUSED) {
            CustomsYard yard = refused.yard();
            due.is(refused.call, refused.made.applyAsLong(yard), refused.answer);
            due.is("refused() by " + refused.call, yard.refused(), refused.why);
        }
    }

    /** All that can be asked of a busy yard but the counts of refusals; asking empties its BAYS and GATES. */
    private static List<Long> stateOf(CustomsYard yard) {
        List<Long> state = new ArrayList<>();
        for (int what : new int[] {0, 4, 5}) {
            state.add((long) yard.count(what));
        }
        for (int load = 0; load <= 12; load++) {
            state.add((long) yard.sort(load));
            state.add((long) yard.take(load, load));
            state.add(yard.weight(load));
            state.add((long) yard.line(load));
            state.add((long) yard.duty(load));
        }
        for (int i = 0; i < 3; i++) {
            for (int row : Yards.NUMBERS) {
                state.add(yard.number(row, i));
            }
            for (int row : Yards.THINGS) {
                state.add((long) yard.at(row, i));
            }
        }
        for (int gate = 0; gate <= 5; gate++) {
            state.add(yard.passed(gate));
            state.add((long) yard.gate(gate, NONE));
        }
        for (int bay = 0; bay <= 11; bay++) {
            state.add((long) yard.hold(bay, NONE));
        }
        return state;
    }

    private static void changesNothing() {
        due.says("Terms", "What is refused changes nothing");
        for (Refused refused : REFUSED) {
            CustomsYard yard = refused.yard();
            refused.made.applyAsLong(yard);
            List<Long> untouched = stateOf(refused.yard()), state = stateOf(yard);
            for (int i = 0; i < state.size(); i++) {
                due.is("answer " + i + " of the state after " + refused.call, state.get(i), untouched.get(i));
            }
        }
    }

    private static void countedOneACall() {
        due.says("Terms", "but CAST, INDEX, STORE are counted, one a call.");
        int[] counted = {CAST, INDEX, STORE};
        for (Refused refused : REFUSED) {
            CustomsYard yard = refused.yard();
            for (int times = 1; times <= 2; times++) {
                refused.made.applyAsLong(yard);
                for (int i = 0; i < counted.length; i++) {
                    int want = refused.why == counted[i] ? times : 0;
                    due.is("count(" + (i + 1) + ") after " + refused.call, yard.count(i + 1), want);
                }
            }
        }
    }

    private static void refusedByTheLatestCall() {
        due.says("Promise 20", "was refused by (BAD, FULL, CAST, INDEX, STORE)");
        CustomsYard yard = busy();
        fill(yard);
        due.refusal(yard, "BAD", yard.sort(99), BAD);
        due.refusal(yard, "CAST", yard.take(7, 4), CAST);
        due.refusal(yard, "INDEX", yard.at(7, 3), INDEX);
        due.refusal(yard, "STORE", yard.put(8, 0, 4), STORE);
        due.refusal(yard, "FULL", yard.tariff(0, 0), FULL);
        due.refusal(yard, "FULL", yard.load(0, 0), FULL);
        due.zeroFor(yard, "BAD, where the answer is 0", yard.weight(99), BAD);
        due.answer(yard, "an answer", yard.sort(7), 7);
    }

    private static void refusedWhenThereWasNone() {
        due.says("Promise 20", "or there was none.");
        CustomsYard yard = new CustomsYard();
        due.is("refused()", yard.refused(), 0);
        due.is("count(6)", yard.count(6), BAD);
        due.is("refused() after count alone", yard.refused(), 0);
    }

    /** Each call once after a refusal; those that answer 0 or NONE and are not refused twice. */
    private static void refusedWhenItWasNot() {
        due.says("Promise 20", "0: it was not");
        List<ToLongFunction<CustomsYard>> calls = List.of(
            y -> y.load(0, 1), y -> y.set(0, 0, 5), y -> y.number(0, 0), y -> y.put(7, 0, 4), y -> y.at(7, 0),
            y -> y.is(4, 4), y -> y.take(4, 4), y -> y.sort(4), y -> y.weight(4), y -> y.inside(4, 4),
            y -> y.hold(0, 4), y -> y.bay(0, 4), y -> y.gate(1, 4), y -> y.pass(4, 0), y -> y.passed(0),
            y -> y.tariff(4, 1), y -> y.duty(4), y -> y.line(4),
            y -> y.number(13, 0), y -> y.put(7, 2, NONE), y -> y.at(7, 2), y -> y.is(4, 5), y -> y.take(0, 0),
            y -> y.sort(0), y -> y.weight(13), y -> y.inside(4, 5), y -> y.hold(0, NONE), y -> y.bay(0, 4),
            y -> y.gate(5, NONE), y -> y.pass(6, 0), y -> y.passed(5), y -> y.duty(3), y -> y.line(3));
        CustomsYard yard = busy();
        for (int i = 0; i < calls.size(); i++) {
            yard.at(7, 3);
            due.is("refused() before call " + i, yard.refused(), INDEX);
            calls.get(i).applyAsLong(yard);
            due.is("refused() after call " + i, yard.refused(), 0);
        }
    }

    private static void refusedButForRefusedAndCount() {
        due.says("Promise 20", "the latest call but refused(), count()");
        CustomsYard yard = busy();
        yard.take(7, 4);
        for (int what = -1; what <= 6; what++) {
            yard.count(what);
            due.is("refused() after count(" + what + ")", yard.refused(), CAST);
            due.is("refused() again", yard.refused(), CAST);
        }
        yard.sort(7);
        yard.count(6);
        due.is("refused() after a BAD count", yard.refused(), 0);
    }

    private static void counts(CustomsYard yard, String when, int... wants) {
        for (int what = 0; what < wants.length; what++) {
            due.is("count(" + what + ") " + when, yard.count(what), wants[what]);
        }
    }

    private static void countOfEach() {
        due.says("Promise 21", "How many: 0 LOADS, 1 CASTS, 2 INDEXES, 3 STORES that were refused, 4 LOADS that were turned away, "
            + "5 lines of THE TARIFF.");
        CustomsYard yard = Yards.oneOfEach(2);
        counts(yard, "of the LOADS", 13, 0, 0, 0, 0, 0);
        yard.set(4, 9, 1);
        yard.number(4, 9);
        yard.put(7, 9, 6);
        yard.at(0, 9);
        yard.take(6, 4);
        yard.hold(0, 6);
        yard.bay(0, 4);
        counts(yard, "after each CAST", 13, 6, 0, 0, 0, 0);
        yard.set(0, 9, 1);
        yard.number(0, 9);
        yard.put(8, 9, 4);
        yard.at(7, 9);
        counts(yard, "after each INDEX", 13, 6, 4, 0, 0, 0);
        yard.put(8, 0, 4);
        yard.put(11, 0, 7);
        yard.put(11, 0, 7);
        counts(yard, "after each STORE", 13, 6, 4, 3, 0, 0);
        yard.gate(0, 4);
        yard.pass(6, 0);
        yard.pass(6, 0);
        yard.pass(5, 0);
        counts(yard, "after one that was turned away twice", 13, 6, 4, 3, 2, 0);
        yard.tariff(4, 1);
        yard.tariff(5, 1);
        counts(yard, "after two lines", 13, 6, 4, 3, 2, 2);
        yard.gate(0, NONE);
        yard.duty(0);
        yard.is(6, 4);
        counts(yard, "after what is not counted", 13, 6, 4, 3, 2, 2);
    }

    private static void countOfWhatIsNotKept() {
        due.says("Promise 21", "BAD.");
        CustomsYard yard = busy();
        for (int what : Yards.outside(0, 5)) {
            due.is("count(" + what + ")", yard.count(what), BAD);
        }
    }
}
