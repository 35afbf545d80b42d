/** Promises 17 to 19: tariff, duty, line. */
public final class TariffTest {
    private static final int MIN = Integer.MIN_VALUE, MAX = Integer.MAX_VALUE;
    private static final Due due = new Due();

    public static void main(String[] args) {
        tariffCountsItsLines();
        tariffIsRefused();
        firstLineThatFitsDecides();
        dutyIsOnWhatComes();
        dutyAndLineAreRefused();
        due.end();
    }

    private static void tariffCountsItsLines() {
        CustomsYard yard = LoadsTest.oneOfEach(1);
        for (int i = 1; i <= 10; i++) {
            due.answer(yard, "tariff, line " + i, yard.tariff(i + 3, i % 2 == 0 ? 100 : -100), i);
        }
        due.refusal(yard, "tariff beyond 10", yard.tariff(0, 1), CustomsYard.FULL);
        due.refusal(yard, "BAD goes before FULL", yard.tariff(14, 1), CustomsYard.BAD);
        due.refusal(yard, "BAD goes before FULL", yard.tariff(0, 101), CustomsYard.BAD);
        due.is("count(5)", yard.count(5), 10);
        due.answer(yard, "a refused line decides nothing", yard.line(0), CustomsYard.NONE);
        due.answer(yard, "line(12)", yard.line(12), 8);
    }

    private static void tariffIsRefused() {
        CustomsYard yard = LoadsTest.oneOfEach(1);
        int[] noView = {-1, 14, MIN, MAX};
        for (int view : noView) {
            due.refusal(yard, "tariff(" + view + ", 1)", yard.tariff(view, 1), CustomsYard.BAD);
        }
        int[] noRate = {-101, 101, MIN, MAX};
        for (int rate : noRate) {
            due.refusal(yard, "tariff(0, " + rate + ")", yard.tariff(0, rate), CustomsYard.BAD);
        }
        due.is("count(5)", yard.count(5), 0);
        due.answer(yard, "tariff(0, -100)", yard.tariff(0, -100), 1);
        due.answer(yard, "tariff(13, 100)", yard.tariff(13, 100), 2);
    }

    private static void firstLineThatFitsDecides() {
        CustomsYard yard = new CustomsYard();
        int parcel = yard.load(4, 10), sealed = yard.load(5, 20), letter = yard.load(6, 30), dust = yard.load(1, 4);
        due.answer(yard, "duty without a TARIFF", yard.duty(parcel), 0);
        due.answer(yard, "line without a TARIFF", yard.line(parcel), CustomsYard.NONE);
        int grains = yard.load(0, 6);
        due.answer(yard, "line of GRAINS without a TARIFF", yard.line(grains), CustomsYard.NONE);
        yard.tariff(6, 0);
        yard.tariff(13, 3);
        yard.tariff(4, -7);
        yard.tariff(5, 50);
        yard.tariff(4, 9);
        due.answer(yard, "line of a PARCEL", yard.line(parcel), 2);
        due.answer(yard, "duty of a PARCEL", yard.duty(parcel), -70);
        due.answer(yard, "line of a SEALED one", yard.line(sealed), 1);
        due.answer(yard, "duty of a SEALED one", yard.duty(sealed), 3 * 1020);
        due.answer(yard, "line of a LETTER", yard.line(letter), 0);
        due.answer(yard, "duty of a LETTER at the rate 0", yard.duty(letter), 0);
        due.answer(yard, "line of GRAINS", yard.line(grains), CustomsYard.NONE);
        due.answer(yard, "line of DUST", yard.line(dust), CustomsYard.NONE);
        due.answer(yard, "duty of DUST", yard.duty(dust), 0);
        due.is("no CAST was counted", yard.count(1), 0);
    }

    private static void dutyIsOnWhatComes() {
        CustomsYard yard = new CustomsYard();
        int grains = yard.load(0, 6), sealed = yard.load(5, 1000), letter = yard.load(6, 1000), crate = yard.load(8, 5);
        yard.set(grains, 0, 500);
        yard.put(crate, 0, sealed);
        yard.tariff(0, -100);
        yard.tariff(13, 100);
        yard.tariff(9, 11);
        due.answer(yard, "duty of GRAINS is on places", yard.duty(grains), -600);
        due.answer(yard, "the most of a SEALED one", yard.duty(sealed), 200000);
        due.answer(yard, "the most of a LETTER", yard.duty(letter), 200000);
        due.answer(yard, "a SEALED CRATE AS a BUNDLE", yard.duty(crate), 55);
        due.answer(yard, "line of it", yard.line(crate), 2);
    }

    private static void dutyAndLineAreRefused() {
        CustomsYard yard = LoadsTest.oneOfEach(1);
        yard.tariff(0, 1);
        int[] noLoad = {-1, -2, 13, 80, MIN, MAX};
        for (int load : noLoad) {
            due.zeroFor(yard, "duty(" + load + ")", yard.duty(load), CustomsYard.BAD);
            due.refusal(yard, "line(" + load + ")", yard.line(load), CustomsYard.BAD);
        }
    }
}
