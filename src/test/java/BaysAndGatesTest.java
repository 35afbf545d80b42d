/** Promises 12 to 16: hold, bay, gate, pass, passed. */
public final class BaysAndGatesTest {
    private static final int MAX = Yards.MAX, NONE = CustomsYard.NONE;
    private static final Due due = new Due();

    public static void main(String[] args) {
        holdAnswersWhatItHeld();
        holdOfNothing();
        holdOfNoBay();
        holdOfNoLoad();
        bayTakesWhatItHolds();
        bayThatHoldsNothing();
        bayOfNoBayOrView();
        bayOfWhatDoesNotGo();
        gateAnswersWhatItHad();
        gateOfNone();
        gateOfNoGate();
        gateOfNoView();
        passOfWhatGoes();
        passOfWhatDoesNotGo();
        passOfNoLoadOrGate();
        passOfAGateWithoutAView();
        passedAsTheyWereThen();
        passedOfAllThatPassed();
        passedSinceTheViewWasTold();
        passedOfNoGate();
        due.end();
    }

    private static void holdAnswersWhatItHeld() {
        due.says("Promise 12", "A BAY (0 .. 11) holds a LOAD, or nothing (NONE): what it held (NONE).");
        CustomsYard yard = Yards.oneOfEach(1);
        for (int bay = 0; bay <= 11; bay++) {
            due.answer(yard, "hold(" + bay + ", " + bay + ")", yard.hold(bay, bay), NONE);
        }
        for (int bay = 0; bay <= 11; bay++) {
            due.answer(yard, "hold(" + bay + ", 12)", yard.hold(bay, 12), bay);
            due.answer(yard, "hold(" + bay + ", 12) again", yard.hold(bay, 12), 12);
        }
    }

    private static void holdOfNothing() {
        due.says("Promise 12", "or nothing (NONE)");
        CustomsYard yard = Yards.oneOfEach(1);
        for (int bay = 0; bay <= 11; bay++) {
            due.answer(yard, "hold(" + bay + ", NONE) of an empty one", yard.hold(bay, NONE), NONE);
            yard.hold(bay, 0);
            due.answer(yard, "hold(" + bay + ", NONE)", yard.hold(bay, NONE), 0);
            due.answer(yard, "bay(" + bay + ", 0)", yard.bay(bay, 0), NONE);
        }
    }

    private static void holdOfNoBay() {
        due.says("Promise 12", "A BAY (0 .. 11)");
        CustomsYard yard = Yards.oneOfEach(1);
        for (int bay : Yards.outside(0, 11)) {
            due.refusal(yard, "hold(" + bay + ", 0)", yard.hold(bay, 0), CustomsYard.BAD);
            due.refusal(yard, "hold(" + bay + ", NONE)", yard.hold(bay, NONE), CustomsYard.BAD);
        }
    }

    private static void holdOfNoLoad() {
        due.says("Promise 12", "BAD.");
        CustomsYard yard = Yards.oneOfEach(1);
        yard.hold(0, 5);
        for (int load : Yards.outside(NONE, 12)) {
            due.refusal(yard, "hold(0, " + load + ")", yard.hold(0, load), CustomsYard.BAD);
            due.refusal(yard, "hold(1, " + load + ")", yard.hold(1, load), CustomsYard.BAD);
        }
        due.answer(yard, "what it held", yard.hold(0, 1), 5);
        due.answer(yard, "what the empty one held", yard.hold(1, 1), NONE);
    }

    private static void bayTakesWhatItHolds() {
        due.says("Promise 13", "What a BAY holds is TAKEN AS a VIEW");
        CustomsYard yard = new CustomsYard();
        int sealed = yard.load(5, 30), letter = yard.load(6, 7), stack = yard.load(11, 4);
        yard.hold(11, sealed);
        due.answer(yard, "a SEALED one AS SEALED", yard.bay(11, 5), 30);
        due.answer(yard, "a SEALED one AS a PARCEL", yard.bay(11, 4), 30);
        due.answer(yard, "a SEALED one AS DECLARED", yard.bay(11, 13), 1030);
        yard.hold(11, letter);
        due.answer(yard, "a LETTER AS DECLARED", yard.bay(11, 13), 14);
        yard.hold(0, stack);
        due.answer(yard, "a SEALED STACK AS a BALE", yard.bay(0, 12), 4);
        due.answer(yard, "the other BAY stays", yard.bay(11, 6), 7);
    }

    private static void bayThatHoldsNothing() {
        due.says("Promise 13", "NONE: it holds nothing.");
        CustomsYard yard = Yards.oneOfEach(1);
        for (int view = 0; view <= 13; view++) {
            due.answer(yard, "bay(11, " + view + ")", yard.bay(11, view), NONE);
        }
        due.is("nothing is no CAST", yard.count(1), 0);
    }

    private static void bayOfNoBayOrView() {
        due.says("Promise 13", "BAD");
        CustomsYard yard = Yards.oneOfEach(1);
        yard.hold(3, 4);
        for (int bay : Yards.outside(0, 11)) {
            due.refusal(yard, "bay(" + bay + ", 4)", yard.bay(bay, 4), CustomsYard.BAD);
        }
        for (int view : Yards.NO_VIEW) {
            due.refusal(yard, "bay(3, " + view + ")", yard.bay(3, view), CustomsYard.BAD);
            due.refusal(yard, "an empty bay(0, " + view + ")", yard.bay(0, view), CustomsYard.BAD);
        }
        due.is("BAD is no CAST", yard.count(1), 0);
    }

    private static void bayOfWhatDoesNotGo() {
        due.says("Promise 13", "CAST.");
        CustomsYard yard = Yards.oneOfEach(1);
        yard.hold(0, 6);
        for (int view = 0; view <= 12; view++) {
            if (view != 6) {
                due.refusal(yard, "bay(0, " + view + ")", yard.bay(0, view), CustomsYard.CAST);
            }
        }
        due.is("casts counted", yard.count(1), 12);
        due.answer(yard, "the BAY holds it still", yard.hold(0, NONE), 6);
    }

    private static void gateAnswersWhatItHad() {
        due.says("Promise 14", "A GATE (0 .. 5) has a VIEW, or none (NONE): what it had (NONE).");
        CustomsYard yard = new CustomsYard();
        for (int gate = 0; gate <= 5; gate++) {
            int had = NONE;
            for (int view = 0; view <= 13; view++) {
                due.answer(yard, "gate(" + gate + ", " + view + ")", yard.gate(gate, view), had);
                had = view;
            }
        }
        for (int gate = 0; gate <= 5; gate++) {
            due.answer(yard, "gate(" + gate + ", 13) again", yard.gate(gate, 13), 13);
        }
    }

    private static void gateOfNone() {
        due.says("Promise 14", "or none (NONE)");
        CustomsYard yard = new CustomsYard();
        for (int gate = 0; gate <= 5; gate++) {
            due.answer(yard, "gate(" + gate + ", NONE) at first", yard.gate(gate, NONE), NONE);
            yard.gate(gate, 0);
            due.answer(yard, "gate(" + gate + ", NONE)", yard.gate(gate, NONE), 0);
            due.answer(yard, "gate(" + gate + ", NONE) again", yard.gate(gate, NONE), NONE);
        }
    }

    /** A GATE that has a VIEW, and by which a PARCEL of 9 has passed. */
    private static CustomsYard parcelThroughGate(int gate) {
        CustomsYard yard = Yards.oneLoad(4, 9);
        yard.gate(gate, 4);
        due.answer(yard, "pass(0, " + gate + ")", yard.pass(0, gate), 1);
        return yard;
    }

    private static void gateOfNoGate() {
        due.says("Promise 14", "A GATE (0 .. 5)");
        CustomsYard yard = parcelThroughGate(5);
        for (int gate : Yards.outside(0, 5)) {
            due.refusal(yard, "gate(" + gate + ", 4)", yard.gate(gate, 4), CustomsYard.BAD);
            due.refusal(yard, "gate(" + gate + ", NONE)", yard.gate(gate, NONE), CustomsYard.BAD);
        }
    }

    private static void gateOfNoView() {
        due.says("Promise 14", "BAD.");
        CustomsYard yard = parcelThroughGate(5);
        for (int view : Yards.outside(NONE, 13)) {
            due.refusal(yard, "gate(5, " + view + ")", yard.gate(5, view), CustomsYard.BAD);
        }
        due.answer(yard, "what has passed stays", yard.passed(5), 9);
        due.answer(yard, "its VIEW stays", yard.gate(5, 0), 4);
    }

    private static void passOfWhatGoes() {
        due.says("Promise 15", "A LOAD comes to a GATE: 1: it GOES AS its VIEW and passes");
        for (int load = 0; load <= 12; load++) {
            CustomsYard yard = Yards.filled(2);
            for (int view = 0; view <= 13; view++) {
                yard.gate(view % 6, view);
                if (Yards.goesAs(load, view)) {
                    due.answer(yard, "pass of " + load + " by VIEW " + view, yard.pass(load, view % 6), 1);
                    due.answer(yard, "passed", yard.passed(view % 6), yard.weight(load));
                }
            }
            due.is("count(4)", yard.count(4), 0);
        }
    }

    private static void passOfWhatDoesNotGo() {
        due.says("Promise 15", "0: it is turned away.");
        CustomsYard yard = Yards.oneOfEach(3);
        int away = 0;
        for (int view : new int[] {0, 4, 13}) {
            yard.gate(5, view);
            for (int load = 0; load <= 12; load++) {
                if (!Yards.goesAs(load, view)) {
                    due.answer(yard, "pass of " + load + " by VIEW " + view, yard.pass(load, 5), 0);
                    away++;
                }
            }
            due.answer(yard, "nothing has passed", yard.passed(5), 0);
        }
        due.is("count(4)", yard.count(4), away);
        due.is("to be turned away is no CAST", yard.count(1), 0);
    }

    private static void passOfNoLoadOrGate() {
        due.says("Promise 15", "BAD");
        CustomsYard yard = Yards.oneOfEach(2);
        yard.gate(0, 4);
        yard.gate(5, 4);
        for (int load : Yards.outside(0, 12)) {
            due.refusal(yard, "pass(" + load + ", 0)", yard.pass(load, 0), CustomsYard.BAD);
        }
        for (int gate : Yards.outside(0, 5)) {
            due.refusal(yard, "pass(4, " + gate + ")", yard.pass(4, gate), CustomsYard.BAD);
        }
        due.is("BAD turns nothing away", yard.count(4), 0);
    }

    private static void passOfAGateWithoutAView() {
        due.says("Promise 15", "BAD: also a GATE without a VIEW.");
        CustomsYard yard = Yards.oneOfEach(2);
        for (int gate = 0; gate <= 5; gate++) {
            due.refusal(yard, "pass(4, " + gate + ") at first", yard.pass(4, gate), CustomsYard.BAD);
            yard.gate(gate, 4);
            yard.gate(gate, NONE);
            due.refusal(yard, "pass(4, " + gate + ") after NONE", yard.pass(4, gate), CustomsYard.BAD);
        }
        due.is("BAD turns nothing away", yard.count(4), 0);
    }

    private static void passedAsTheyWereThen() {
        due.says("Promise 16", "WEIGHTS, as they were then");
        CustomsYard yard = Yards.oneOfEach(6);
        yard.gate(2, 0);
        for (int i = 0; i < 6; i++) {
            yard.set(0, i, MAX);
        }
        yard.pass(0, 2);
        yard.set(0, 0, -3);
        due.answer(yard, "GRAINS that became lighter", yard.passed(2), 6L * MAX);
        yard.pass(0, 2);
        due.answer(yard, "GRAINS that passed again", yard.passed(2), 11L * MAX - 3);
        yard.gate(3, 12);
        yard.put(11, 0, 8);
        yard.put(8, 0, 5);
        yard.pass(11, 3);
        yard.put(8, 1, 5);
        due.answer(yard, "a SEALED STACK whose CRATE became heavier", yard.passed(3), 6);
        yard.pass(11, 3);
        due.answer(yard, "a SEALED STACK that passed again", yard.passed(3), 18);
    }

    private static void passedOfAllThatPassed() {
        due.says("Promise 16", "of all that passed a GATE");
        CustomsYard yard = new CustomsYard();
        int parcel = yard.load(4, 1000), sealed = yard.load(5, 30), letter = yard.load(6, 7);
        yard.gate(0, 4);
        yard.gate(5, 13);
        for (int load : new int[] {parcel, sealed, letter, sealed}) {
            yard.pass(load, 0);
            yard.pass(load, 5);
        }
        due.answer(yard, "PARCELS that passed", yard.passed(0), 1060);
        due.answer(yard, "what passed as DECLARED, by its WEIGHT", yard.passed(5), 67);
        due.answer(yard, "a GATE by which nothing came", yard.passed(1), 0);
    }

    private static void passedSinceTheViewWasTold() {
        due.says("Promise 16", "since its VIEW was told");
        CustomsYard yard = parcelThroughGate(0);
        yard.gate(1, 4);
        yard.pass(0, 1);
        yard.gate(0, 4);
        due.answer(yard, "the same VIEW told again", yard.passed(0), 0);
        due.answer(yard, "the other GATE stays", yard.passed(1), 9);
        yard.pass(0, 0);
        due.answer(yard, "what passed since", yard.passed(0), 9);
        yard.gate(0, 13);
        due.answer(yard, "another VIEW", yard.passed(0), 0);
        yard.gate(1, NONE);
        due.answer(yard, "no VIEW any more", yard.passed(1), 0);
        yard.gate(1, 4);
        due.answer(yard, "a VIEW after none", yard.passed(1), 0);
    }

    private static void passedOfNoGate() {
        due.says("Promise 16", "0: BAD.");
        CustomsYard yard = parcelThroughGate(5);
        for (int gate : Yards.outside(0, 5)) {
            due.zeroFor(yard, "passed(" + gate + ")", yard.passed(gate), CustomsYard.BAD);
        }
        due.answer(yard, "passed(5)", yard.passed(5), 9);
        due.answer(yard, "passed(0), a GATE without a VIEW", yard.passed(0), 0);
    }
}
