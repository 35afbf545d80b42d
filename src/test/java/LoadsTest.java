/** Promises 1, 2 and 9: a new object, load, sort. */
public final class LoadsTest {
    private static final Due due = new Due();

    public static void main(String[] args) {
        noLoads();
        emptyBays();
        emptyGates();
        tariffOfNothing();
        objectsAreApart();
        loadsAreNumbered();
        places();
        placesAtFirst();
        weights();
        sorts();
        fullAtEighty();
        badBeforeFull();
        sortOfEach();
        sortOfNoLoad();
        due.end();
    }

    private static void noLoads() {
        due.says("Promise 1", "No LOADS");
        CustomsYard yard = new CustomsYard();
        due.is("refused()", yard.refused(), 0);
        due.is("count(0)", yard.count(0), 0);
        due.refusal(yard, "sort(0)", yard.sort(0), CustomsYard.BAD);
        due.refusal(yard, "set(0, 0, 0)", yard.set(0, 0, 0), CustomsYard.BAD);
        due.zeroFor(yard, "number(0, 0)", yard.number(0, 0), CustomsYard.BAD);
        due.refusal(yard, "at(0, 0)", yard.at(0, 0), CustomsYard.BAD);
        due.refusal(yard, "is(0, 0)", yard.is(0, 0), CustomsYard.BAD);
        due.zeroFor(yard, "weight(0)", yard.weight(0), CustomsYard.BAD);
        due.refusal(yard, "hold(0, 0)", yard.hold(0, 0), CustomsYard.BAD);
    }

    private static void emptyBays() {
        due.says("Promise 1", "empty BAYS");
        CustomsYard asked = new CustomsYard(), held = Yards.oneLoad(0, 0);
        for (int bay = 0; bay < 12; bay++) {
            due.answer(asked, "bay(" + bay + ", 0)", asked.bay(bay, 0), CustomsYard.NONE);
            due.answer(held, "hold(" + bay + ", 0)", held.hold(bay, 0), CustomsYard.NONE);
        }
    }

    private static void emptyGates() {
        due.says("Promise 1", "empty BAYS, GATES");
        CustomsYard yard = Yards.oneLoad(0, 0);
        for (int gate = 0; gate < 6; gate++) {
            due.refusal(yard, "pass(0, " + gate + ")", yard.pass(0, gate), CustomsYard.BAD);
            due.answer(yard, "passed(" + gate + ")", yard.passed(gate), 0);
            due.answer(yard, "gate(" + gate + ", 0)", yard.gate(gate, 0), CustomsYard.NONE);
        }
        due.is("count(4)", yard.count(4), 0);
    }

    private static void tariffOfNothing() {
        due.says("Promise 1", "a TARIFF of nothing");
        CustomsYard yard = Yards.oneOfEach(1);
        due.is("count(5)", yard.count(5), 0);
        for (int load = 0; load <= 12; load++) {
            due.answer(yard, "line(" + load + ")", yard.line(load), CustomsYard.NONE);
            due.answer(yard, "duty(" + load + ")", yard.duty(load), 0);
        }
    }

    /** Also when another object has been used before. */
    private static void objectsAreApart() {
        due.says("Promise 1", "No LOADS, empty BAYS, GATES and a TARIFF of nothing.");
        CustomsYard used = Yards.oneOfEach(1);
        used.hold(0, 4);
        used.gate(0, 4);
        used.pass(4, 0);
        used.pass(6, 0);
        used.tariff(4, 1);
        used.take(6, 4);
        used.at(7, 1);
        used.put(8, 0, 4);
        CustomsYard yard = new CustomsYard();
        for (int what = 0; what <= 5; what++) {
            due.is("count(" + what + ")", yard.count(what), 0);
        }
        due.is("refused()", yard.refused(), 0);
        due.is("bay(0, 4)", yard.bay(0, 4), CustomsYard.NONE);
        due.is("passed(0)", yard.passed(0), 0);
        due.is("gate(0, 4)", yard.gate(0, 4), CustomsYard.NONE);
    }

    private static void loadsAreNumbered() {
        due.says("Promise 2", "A LOAD: its number (0, 1, ..).");
        CustomsYard yard = new CustomsYard();
        for (int sort = 0; sort <= 12; sort++) {
            due.answer(yard, "load(" + sort + ", 1)", yard.load(sort, 1), 2L * sort);
            due.refusal(yard, "a refused load takes no number", yard.load(sort, -1), CustomsYard.BAD);
            due.answer(yard, "load(" + sort + ", 1) again", yard.load(sort, 1), 2L * sort + 1);
        }
        due.is("count(0)", yard.count(0), 26);
    }

    private static void places() {
        due.says("Promise 2", "n: how many places (0 .. 6");
        for (int sort = 0; sort <= 12; sort++) {
            if (!Yards.isPiece(sort)) {
                takesFromTo(sort, 6);
            }
        }
    }

    private static void weights() {
        due.says("Promise 2", "of 4, 5, 6 the WEIGHT (0 .. 1000).");
        for (int sort = 4; sort <= 6; sort++) {
            takesFromTo(sort, 1000);
        }
    }

    private static void takesFromTo(int sort, int most) {
        CustomsYard yard = new CustomsYard();
        for (int n : Yards.outside(0, most)) {
            due.refusal(yard, "load(" + sort + ", " + n + ")", yard.load(sort, n), CustomsYard.BAD);
        }
        due.is("count(0)", yard.count(0), 0);
        int[] taken = {0, 1, most - 1, most};
        for (int number = 0; number < taken.length; number++) {
            due.answer(yard, "load(" + sort + ", " + taken[number] + ")", yard.load(sort, taken[number]), number);
            due.answer(yard, "take of it", yard.take(number, sort), taken[number]);
        }
    }

    private static void placesAtFirst() {
        due.says("Promise 2", "numbers 0, things none");
        CustomsYard yard = Yards.oneOfEach(6);
        for (int i = 0; i < 6; i++) {
            for (int row : Yards.NUMBERS) {
                due.answer(yard, "number(" + row + ", " + i + ")", yard.number(row, i), 0);
            }
            for (int row : Yards.THINGS) {
                due.answer(yard, "at(" + row + ", " + i + ")", yard.at(row, i), CustomsYard.NONE);
            }
        }
    }

    private static void sorts() {
        due.says("Promise 2", "BAD");
        CustomsYard yard = new CustomsYard();
        for (int sort : Yards.outside(0, 12)) {
            for (int n : new int[] {0, 1, 6, 1000, -1}) {
                due.refusal(yard, "load(" + sort + ", " + n + ")", yard.load(sort, n), CustomsYard.BAD);
            }
        }
        due.is("count(0)", yard.count(0), 0);
        due.answer(yard, "load(0, 6)", yard.load(0, 6), 0);
        due.answer(yard, "load(12, 6)", yard.load(12, 6), 1);
    }

    private static CustomsYard eighty() {
        CustomsYard yard = new CustomsYard();
        for (int i = 0; i < 80; i++) {
            due.answer(yard, "load, the number being " + i, yard.load(i % 13, 6), i);
        }
        return yard;
    }

    private static void fullAtEighty() {
        due.says("Promise 2", "FULL: 80.");
        CustomsYard yard = eighty();
        for (int sort = 0; sort <= 12; sort++) {
            due.refusal(yard, "load(" + sort + ", 0) as the 81st", yard.load(sort, 0), CustomsYard.FULL);
        }
        due.is("count(0)", yard.count(0), 80);
        due.answer(yard, "sort(79)", yard.sort(79), 1);
        due.answer(yard, "set(79, 5, 3)", yard.set(79, 5, 3), 1);
        due.refusal(yard, "sort(80)", yard.sort(80), CustomsYard.BAD);
        due.answer(yard, "sort(0)", yard.sort(0), 0);
    }

    private static void badBeforeFull() {
        due.says("Promise 2", "BAD; FULL: 80.");
        CustomsYard yard = eighty();
        for (int sort : Yards.outside(0, 12)) {
            due.refusal(yard, "load(" + sort + ", 1)", yard.load(sort, 1), CustomsYard.BAD);
        }
        for (int n : Yards.outside(0, 6)) {
            due.refusal(yard, "load(0, " + n + ")", yard.load(0, n), CustomsYard.BAD);
        }
        for (int n : Yards.outside(0, 1000)) {
            due.refusal(yard, "load(4, " + n + ")", yard.load(4, n), CustomsYard.BAD);
        }
    }

    private static void sortOfEach() {
        due.says("Promise 9", "The SORT of a LOAD.");
        CustomsYard yard = Yards.oneOfEach(0);
        for (int load = 0; load <= 12; load++) {
            due.answer(yard, "sort(" + load + ")", yard.sort(load), load);
        }
    }

    private static void sortOfNoLoad() {
        due.says("Promise 9", "BAD.");
        CustomsYard yard = Yards.oneOfEach(1);
        for (int load : Yards.outside(0, 12)) {
            due.refusal(yard, "sort(" + load + ")", yard.sort(load), CustomsYard.BAD);
        }
        due.refusal(yard, "sort(79)", yard.sort(79), CustomsYard.BAD);
        due.refusal(yard, "sort(80)", yard.sort(80), CustomsYard.BAD);
    }
}
