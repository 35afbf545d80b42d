/** Promises 12 to 16: hold, bay, gate, pass, passed. */
public final class BaysAndGatesTest {
    private static final int MIN = Integer.MIN_VALUE, MAX = Integer.MAX_VALUE;
    private static final Due due = new Due();

    public static void main(String[] args) {
        holdAnswersWhatWasHeld();
        holdIsRefused();
        bayTakesWhatItHolds();
        bayIsRefused();
        gateAnswersWhatItHad();
        gateIsRefused();
        passByView();
        passIsRefused();
        passedKeepsWeightsOfThen();
        passedStartsAnewWithAView();
        due.end();
    }

    private static void holdAnswersWhatWasHeld() {
        CustomsYard yard = LoadsTest.oneOfEach(1);
        for (int bay = 0; bay < 12; bay++) {
            due.answer(yard, "hold(" + bay + ", " + bay + ")", yard.hold(bay, bay), CustomsYard.NONE);
        }
        for (int bay = 0; bay < 12; bay++) {
            due.answer(yard, "hold(" + bay + ", 12)", yard.hold(bay, 12), bay);
            due.answer(yard, "hold(" + bay + ", NONE)", yard.hold(bay, CustomsYard.NONE), 12);
            due.answer(yard, "hold(" + bay + ", 0)", yard.hold(bay, 0), CustomsYard.NONE);
        }
    }

    private static void holdIsRefused() {
        CustomsYard yard = LoadsTest.oneOfEach(1);
        yard.hold(0, 5);
        int[] noBay = {-1, 12, MIN, MAX};
        for (int bay : noBay) {
            due.refusal(yard, "hold(" + bay + ", 0)", yard.hold(bay, 0), CustomsYard.BAD);
            due.refusal(yard, "hold(" + bay + ", NONE)", yard.hold(bay, CustomsYard.NONE), CustomsYard.BAD);
        }
        int[] noLoad = {-2, 13, 80, MIN, MAX};
        for (int load : noLoad) {
            due.refusal(yard, "hold(0, " + load + ")", yard.hold(0, load), CustomsYard.BAD);
        }
        due.is("a refused hold changes nothing", yard.hold(0, 1), 5);
    }

    private static void bayTakesWhatItHolds() {
        CustomsYard yard = new CustomsYard();
        int sealed = yard.load(5, 30), letter = yard.load(6, 7), stack = yard.load(11, 4);
        yard.hold(11, sealed);
        due.answer(yard, "a SEALED one AS SEALED", yard.bay(11, 5), 30);
        due.answer(yard, "a SEALED one AS a PARCEL", yard.bay(11, 4), 30);
        due.answer(yard, "a SEALED one AS DECLARED", yard.bay(11, 13), 1030);
        due.refusal(yard, "a SEALED one AS a LETTER", yard.bay(11, 6), CustomsYard.CAST);
        yard.hold(11, letter);
        due.answer(yard, "a LETTER AS DECLARED", yard.bay(11, 13), 14);
        due.refusal(yard, "a LETTER AS a PARCEL", yard.bay(11, 4), CustomsYard.CAST);
        yard.hold(0, stack);
        due.answer(yard, "a SEALED STACK AS a BALE", yard.bay(0, 12), 4);
        due.answer(yard, "the other BAY stays", yard.bay(11, 6), 7);
        yard.hold(11, CustomsYard.NONE);
        due.answer(yard, "an empty BAY", yard.bay(11, 6), CustomsYard.NONE);
        due.is("casts counted", yard.count(1), 2);
    }

    private static void bayIsRefused() {
        CustomsYard yard = LoadsTest.oneOfEach(1);
        yard.hold(3, 4);
        int[] noBay = {-1, 12, MIN, MAX};
        for (int bay : noBay) {
            due.refusal(yard, "bay(" + bay + ", 4)", yard.bay(bay, 4), CustomsYard.BAD);
        }
        int[] noView = {-1, 14, MIN, MAX};
        for (int view : noView) {
            due.refusal(yard, "bay(3, " + view + ")", yard.bay(3, view), CustomsYard.BAD);
            due.refusal(yard, "an empty bay(0, " + view + ")", yard.bay(0, view), CustomsYard.BAD);
        }
        due.is("no CAST was counted", yard.count(1), 0);
    }

    private static void gateAnswersWhatItHad() {
        CustomsYard yard = new CustomsYard();
        for (int gate = 0; gate < 6; gate++) {
            int had = CustomsYard.NONE;
            for (int view = 0; view <= 13; view++) {
                due.answer(yard, "gate(" + gate + ", " + view + ")", yard.gate(gate, view), had);
                had = view;
            }
            due.answer(yard, "gate(" + gate + ", NONE)", yard.gate(gate, CustomsYard.NONE), 13);
            due.answer(yard, "gate(" + gate + ", NONE)", yard.gate(gate, CustomsYard.NONE), CustomsYard.NONE);
        }
    }

    private static void gateIsRefused() {
        CustomsYard yard = new CustomsYard();
        int parcel = yard.load(4, 9);
        yard.gate(5, 4);
        yard.pass(parcel, 5);
        int[] noGate = {-1, 6, MIN, MAX};
        for (int gate : noGate) {
            due.refusal(yard, "gate(" + gate + ", 4)", yard.gate(gate, 4), CustomsYard.BAD);
            due.refusal(yard, "gate(" + gate + ", NONE)", yard.gate(gate, CustomsYard.NONE), CustomsYard.BAD);
            due.zeroFor(yard, "passed(" + gate + ")", yard.passed(gate), CustomsYard.BAD);
        }
        int[] noView = {-2, 14, MIN, MAX};
        for (int view : noView) {
            due.refusal(yard, "gate(5, " + view + ")", yard.gate(5, view), CustomsYard.BAD);
        }
        due.answer(yard, "a refused gate keeps what passed", yard.passed(5), 9);
        due.is("a refused gate keeps its VIEW", yard.gate(5, 0), 4);
    }

    private static void passByView() {
        CustomsYard yard = LoadsTest.oneOfEach(2);
        int away = 0;
        for (int view = 0; view <= 13; view++) {
            yard.gate(view % 6, view);
            for (int load = 0; load <= 12; load++) {
                int goes = yard.is(load, view);
                due.answer(yard, "pass of " + load + " by " + view, yard.pass(load, view % 6), goes);
                away += 1 - goes;
            }
        }
        due.is("count(4)", yard.count(4), away);
        due.is("to be turned away is no CAST", yard.count(1), 0);
        yard.gate(0, 4);
        yard.pass(6, 0);
        due.is("what is turned away again counts again", yard.count(4), away + 1);
        due.is("passed without what was turned away", yard.passed(0), 0);
    }

    private static void passIsRefused() {
        CustomsYard yard = LoadsTest.oneOfEach(2);
        yard.gate(0, 4);
        int[] noLoad = {-1, -2, 13, MIN, MAX};
        for (int load : noLoad) {
            due.refusal(yard, "pass(" + load + ", 0)", yard.pass(load, 0), CustomsYard.BAD);
        }
        int[] noGate = {-1, 6, MIN, MAX};
        for (int gate : noGate) {
            due.refusal(yard, "pass(4, " + gate + ")", yard.pass(4, gate), CustomsYard.BAD);
        }
        due.refusal(yard, "a GATE without a VIEW", yard.pass(4, 1), CustomsYard.BAD);
        yard.gate(0, CustomsYard.NONE);
        due.refusal(yard, "a GATE that lost its VIEW", yard.pass(4, 0), CustomsYard.BAD);
        due.is("BAD turns nothing away", yard.count(4), 0);
    }

    private static void passedKeepsWeightsOfThen() {
        CustomsYard yard = new CustomsYard();
        int grains = yard.load(0, 6);
        yard.gate(2, 0);
        for (int i = 0; i < 6; i++) {
            yard.set(grains, i, MAX);
        }
        due.answer(yard, "pass of the heavy", yard.pass(grains, 2), 1);
        due.answer(yard, "passed(2)", yard.passed(2), 6L * MAX);
        yard.set(grains, 0, -3);
        due.answer(yard, "what has passed keeps its WEIGHT", yard.passed(2), 6L * MAX);
        due.answer(yard, "pass of the lighter", yard.pass(grains, 2), 1);
        due.answer(yard, "passed(2)", yard.passed(2), 11L * MAX - 3);
        due.answer(yard, "another GATE", yard.passed(3), 0);
        int crate = yard.load(8, 2), sealed = yard.load(5, 40);
        yard.put(crate, 0, sealed);
        yard.put(crate, 1, sealed);
        yard.gate(3, 9);
        due.answer(yard, "pass of a SEALED CRATE AS a BUNDLE", yard.pass(crate, 3), 1);
        due.answer(yard, "WEIGHT, not what comes of it", yard.passed(3), 80);
    }

    private static void passedStartsAnewWithAView() {
        CustomsYard yard = new CustomsYard();
        int parcel = yard.load(4, 9);
        yard.gate(0, 4);
        yard.gate(1, 4);
        yard.pass(parcel, 0);
        yard.pass(parcel, 1);
        yard.gate(0, 4);
        due.answer(yard, "the same VIEW told again", yard.passed(0), 0);
        due.answer(yard, "the other GATE stays", yard.passed(1), 9);
        yard.pass(parcel, 0);
        due.answer(yard, "passed(0)", yard.passed(0), 9);
        yard.gate(0, CustomsYard.NONE);
        due.answer(yard, "no VIEW any more", yard.passed(0), 0);
    }
}
