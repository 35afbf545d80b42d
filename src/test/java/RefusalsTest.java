/** Promises 20 and 21: refused, count. */
public final class RefusalsTest {
    private static final int MIN = Integer.MIN_VALUE, MAX = Integer.MAX_VALUE;
    private static final Due due = new Due();

    public static void main(String[] args) {
        refusedTellsTheLatest();
        everyCallClearsTheRefusal();
        refusedAndCountLeaveTheRefusal();
        countsOfEach();
        countIsRefused();
        due.end();
    }

    private static void refusedTellsTheLatest() {
        CustomsYard yard = LoadsTest.oneOfEach(2);
        due.is("refused() at first", new CustomsYard().refused(), 0);
        due.refusal(yard, "BAD", yard.sort(99), CustomsYard.BAD);
        due.refusal(yard, "CAST", yard.take(7, 4), CustomsYard.CAST);
        due.refusal(yard, "INDEX", yard.at(7, 2), CustomsYard.INDEX);
        due.refusal(yard, "STORE", yard.put(8, 0, 4), CustomsYard.STORE);
        for (int i = 0; i < 10; i++) {
            yard.tariff(0, 0);
        }
        due.refusal(yard, "FULL", yard.tariff(0, 0), CustomsYard.FULL);
        due.answer(yard, "an answer", yard.sort(7), 7);
    }

    /** The calls that take a LOAD, or do without, one by one after a refusal. */
    private static void everyCallClearsTheRefusal() {
        CustomsYard yard = LoadsTest.oneOfEach(2);
        yard.gate(0, 4);
        String[] names = {"load", "set", "number", "put", "at", "is", "take", "sort", "weight", "inside",
            "hold", "bay", "gate", "pass", "passed", "tariff", "duty", "line", "is, of 0", "pass, of 0"};
        for (int which = 0; which < names.length; which++) {
            yard.at(7, 2);
            due.is("refused() before " + names[which], yard.refused(), CustomsYard.INDEX);
            callInOrder(yard, which);
            due.is("refused() after " + names[which], yard.refused(), 0);
        }
    }

    private static long callInOrder(CustomsYard yard, int which) {
        switch (which) {
            case 0: return yard.load(0, 1);
            case 1: return yard.set(0, 0, 5);
            case 2: return yard.number(0, 0);
            case 3: return yard.put(7, 0, 4);
            case 4: return yard.at(7, 0);
            case 5: return yard.is(4, 4);
            case 6: return yard.take(4, 4);
            case 7: return yard.sort(4);
            case 8: return yard.weight(4);
            case 9: return yard.inside(4, 4);
            case 10: return yard.hold(0, 4);
            case 11: return yard.bay(0, 4);
            case 12: return yard.gate(1, 4);
            case 13: return yard.pass(4, 0);
            case 14: return yard.passed(0);
            case 15: return yard.tariff(4, 1);
            case 16: return yard.duty(4);
            case 17: return yard.line(4);
            case 18: return yard.is(4, 5);
            default: return yard.pass(6, 0);
        }
    }

    private static void refusedAndCountLeaveTheRefusal() {
        CustomsYard yard = LoadsTest.oneOfEach(2);
        yard.take(7, 4);
        for (int what = -1; what <= 6; what++) {
            yard.count(what);
            due.is("refused() after count(" + what + ")", yard.refused(), CustomsYard.CAST);
            due.is("refused() again", yard.refused(), CustomsYard.CAST);
        }
        yard.sort(7);
        yard.count(99);
        due.is("refused() after a BAD count", yard.refused(), 0);
    }

    private static void counts(CustomsYard yard, String when, int... wants) {
        for (int what = 0; what < wants.length; what++) {
            due.is("count(" + what + ") " + when, yard.count(what), wants[what]);
        }
    }

    private static void countsOfEach() {
        CustomsYard yard = LoadsTest.oneOfEach(2);
        counts(yard, "of the LOADS", 13, 0, 0, 0, 0, 0);
        yard.set(4, 9, 1);
        yard.number(4, 9);
        yard.put(7, 9, 6);
        yard.at(0, 9);
        yard.take(6, 4);
        yard.hold(0, 6);
        yard.bay(0, 4);
        counts(yard, "after each CAST", 13, 6, 0, 0, 0, 0);
        yard.set(0, 9, 1);
        yard.number(0, 9);
        yard.put(8, 9, 4);
        yard.at(7, 9);
        counts(yard, "after each INDEX", 13, 6, 4, 0, 0, 0);
        yard.put(8, 0, 4);
        yard.put(11, 0, 7);
        yard.put(11, 0, 7);
        counts(yard, "after each STORE", 13, 6, 4, 3, 0, 0);
        yard.gate(0, 4);
        yard.pass(6, 0);
        yard.pass(6, 0);
        yard.pass(5, 0);
        counts(yard, "after two that were turned away", 13, 6, 4, 3, 2, 0);
        yard.tariff(4, 1);
        yard.tariff(5, 1);
        yard.duty(0);
        counts(yard, "after two lines", 13, 6, 4, 3, 2, 2);
        yard.load(-1, 0);
        yard.sort(-1);
        yard.tariff(-1, 0);
        yard.pass(4, 5);
        counts(yard, "after BAD calls", 13, 6, 4, 3, 2, 2);
    }

    private static void countIsRefused() {
        CustomsYard yard = new CustomsYard();
        int[] noCount = {-1, 6, MIN, MAX};
        for (int what : noCount) {
            due.is("count(" + what + ")", yard.count(what), CustomsYard.BAD);
        }
    }
}
