/** Promises 17 to 19: tariff, duty, line. */
public final class TariffTest {
    private static final Due due = new Due();

    public static void main(String[] args) {
        tariffCountsItsLines();
        rates();
        views();
        fullAtTen();
        badBeforeFull();
        firstLineThatFitsDecides();
        lineThatBringsNothing();
        dutyIsOnWhatComes();
        dutyAtItsEdges();
        dutyWithoutALine();
        dutyOfNoLoad();
        lineOfEach();
        lineThatIsNone();
        lineOfNoLoad();
        due.end();
    }

    private static void tariffCountsItsLines() {
        due.says("Promise 17", "how many.");
        CustomsYard yard = new CustomsYard();
        for (int i = 1; i <= 10; i++) {
            due.answer(yard, "tariff, line " + i, yard.tariff(4, 1), i);
            due.is("count(5)", yard.count(5), i);
            due.refusal(yard, "a refused line is none", yard.tariff(4, 101), CustomsYard.BAD);
        }
    }

    private static void rates() {
        due.says("Promise 17", "a rate (-100 .. 100)");
        CustomsYard yard = Yards.oneLoad(4, 1);
        for (int rate : Yards.outside(-100, 100)) {
            due.refusal(yard, "tariff(4, " + rate + ")", yard.tariff(4, rate), CustomsYard.BAD);
        }
        due.is("count(5)", yard.count(5), 0);
        for (int rate : new int[] {-100, -99, -1, 0, 1, 99, 100}) {
            CustomsYard other = Yards.oneLoad(4, 7);
            due.answer(other, "tariff(4, " + rate + ")", other.tariff(4, rate), 1);
            due.answer(other, "duty at " + rate, other.duty(0), 7 * rate);
        }
    }

    private static void views() {
        due.says("Promise 17", "a VIEW");
        CustomsYard yard = Yards.oneOfEach(1);
        for (int view : Yards.NO_VIEW) {
            due.refusal(yard, "tariff(" + view + ", 1)", yard.tariff(view, 1), CustomsYard.BAD);
        }
        due.is("count(5)", yard.count(5), 0);
        due.answer(yard, "tariff(0, 1)", yard.tariff(0, 1), 1);
        due.answer(yard, "tariff(13, 1)", yard.tariff(13, 1), 2);
    }

    /** Ten lines, for the VIEWS 3 to 12. */
    private static CustomsYard tenLines() {
        CustomsYard yard = Yards.oneOfEach(1);
        for (int i = 1; i <= 10; i++) {
            due.answer(yard, "tariff, line " + i, yard.tariff(i + 2, i), i);
        }
        return yard;
    }

    private static void fullAtTen() {
        due.says("Promise 17", "FULL: 10.");
        CustomsYard yard = tenLines();
        for (int view = 0; view <= 13; view++) {
            due.refusal(yard, "tariff(" + view + ", 0) as the 11th", yard.tariff(view, 0), CustomsYard.FULL);
        }
        due.is("count(5)", yard.count(5), 10);
        due.answer(yard, "a refused line decides nothing", yard.line(0), CustomsYard.NONE);
        due.answer(yard, "the last line", yard.line(12), 9);
        due.answer(yard, "duty of the last line", yard.duty(12), 10);
        due.answer(yard, "duty of the first line", yard.duty(3), 1);
    }

    private static void badBeforeFull() {
        due.says("Promise 17", "BAD; FULL: 10.");
        CustomsYard yard = tenLines();
        for (int view : Yards.NO_VIEW) {
            due.refusal(yard, "tariff(" + view + ", 1)", yard.tariff(view, 1), CustomsYard.BAD);
        }
        for (int rate : Yards.outside(-100, 100)) {
            due.refusal(yard, "tariff(0, " + rate + ")", yard.tariff(0, rate), CustomsYard.BAD);
        }
    }

    private static void firstLineThatFitsDecides() {
        due.says("Promise 18", "of the first line whose VIEW it GOES AS the rate");
        CustomsYard yard = new CustomsYard();
        int parcel = yard.load(4, 10), sealed = yard.load(5, 20), letter = yard.load(6, 30), stack = yard.load(11, 2);
        yard.tariff(10, 4);
        yard.tariff(13, 3);
        yard.tariff(4, -7);
        yard.tariff(5, 50);
        yard.tariff(4, 9);
        yard.tariff(11, 5);
        due.answer(yard, "duty of a PARCEL", yard.duty(parcel), -70);
        due.answer(yard, "duty of a SEALED one, not by its own line", yard.duty(sealed), 3 * 1020);
        due.answer(yard, "duty of a LETTER", yard.duty(letter), 3 * 60);
        due.answer(yard, "duty of a SEALED STACK, not by its own line", yard.duty(stack), 8);
        due.is("no CAST was counted", yard.count(1), 0);
    }

    /** It decides though its rate, or what comes, is 0, and a later line would bring more. */
    private static void lineThatBringsNothing() {
        due.says("Promise 18", "of the first line");
        CustomsYard yard = Yards.oneOfEach(0);
        yard.tariff(4, 5);
        yard.tariff(5, 5);
        yard.tariff(6, 0);
        yard.tariff(13, 5);
        due.answer(yard, "duty of a SEALED one of 0 AS a PARCEL", yard.duty(5), 0);
        due.answer(yard, "line of it", yard.line(5), 0);
        yard.load(6, 9);
        due.answer(yard, "duty of a LETTER at the rate 0", yard.duty(13), 0);
        due.answer(yard, "line of it", yard.line(13), 2);
    }

    private static void dutyIsOnWhatComes() {
        due.says("Promise 18", "the rate times what comes of TAKING it AS that");
        CustomsYard yard = Yards.filled(5);
        yard.set(0, 0, 500);
        yard.tariff(0, -100);
        yard.tariff(9, 11);
        due.answer(yard, "duty of GRAINS is on places", yard.duty(0), -500);
        due.answer(yard, "a SEALED CRATE AS a BUNDLE", yard.duty(8), 55);
        yard.put(8, 0, CustomsYard.NONE);
        due.answer(yard, "places count though none is there", yard.duty(8), 55);
    }

    /** The least and the most there can be. */
    private static void dutyAtItsEdges() {
        due.says("Promise 18", "the rate times what comes");
        for (int rate : new int[] {-100, 100}) {
            for (int sort = 5; sort <= 6; sort++) {
                CustomsYard yard = Yards.oneLoad(sort, 1000);
                yard.tariff(13, rate);
                due.answer(yard, "duty of SORT " + sort + " at " + rate, yard.duty(0), 2000 * rate);
            }
        }
        CustomsYard sealed = Yards.oneLoad(5, 0);
        sealed.tariff(13, -100);
        due.answer(sealed, "duty of a SEALED one of 0", sealed.duty(0), -100_000);
    }

    private static void dutyWithoutALine() {
        due.says("Promise 18", "0: no line");
        CustomsYard yard = Yards.oneOfEach(1);
        due.answer(yard, "duty without a TARIFF", yard.duty(4), 0);
        yard.tariff(5, 7);
        due.answer(yard, "duty of a PARCEL with a line for SEALED ones", yard.duty(4), 0);
        due.answer(yard, "duty of a CRATE", yard.duty(7), 0);
        due.is("no line is no CAST", yard.count(1), 0);
    }

    private static void dutyOfNoLoad() {
        due.says("Promise 18", "0: no line, or BAD.");
        CustomsYard yard = tenLines();
        for (int load : Yards.outside(0, 12)) {
            due.zeroFor(yard, "duty(" + load + ")", yard.duty(load), CustomsYard.BAD);
        }
    }

    private static void lineOfEach() {
        due.says("Promise 19", "The line that decides (0, 1, ..)");
        CustomsYard yard = tenLines();
        // By LOAD the line that decides: a SEALED one goes as a PARCEL first, a SEALED CRATE as a CRATE.
        int[] wants = {-1, -1, -1, 0, 1, 1, 3, 4, 4, 6, 7, 7, 9};
        for (int load = 0; load <= 12; load++) {
            due.answer(yard, "line(" + load + ")", yard.line(load), wants[load]);
        }
    }

    private static void lineThatIsNone() {
        due.says("Promise 19", "NONE.");
        CustomsYard yard = Yards.oneOfEach(1);
        for (int load = 0; load <= 12; load++) {
            due.answer(yard, "line(" + load + ") without a TARIFF", yard.line(load), CustomsYard.NONE);
        }
        yard.tariff(1, 7);
        due.answer(yard, "line of GRAINS with a line for DUST", yard.line(0), CustomsYard.NONE);
        due.answer(yard, "line of DUST", yard.line(1), 0);
        due.is("NONE is no CAST", yard.count(1), 0);
    }

    private static void lineOfNoLoad() {
        due.says("Promise 19", "BAD.");
        CustomsYard yard = tenLines();
        for (int load : Yards.outside(0, 12)) {
            due.refusal(yard, "line(" + load + ")", yard.line(load), CustomsYard.BAD);
        }
    }
}
