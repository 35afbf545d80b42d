/**
 * Rule 7 of LANGUAGE.md: no call throws, for any arguments in any state. What is due is told elsewhere; here a call
 * that throws ends the test. The objects are used far beyond their 512th call, where the answers are free.
 */
public final class WildTest {
    private static final int[] WILD = {Yards.MIN, Yards.MIN + 1, -1001, -129, -101, -100, -7, -6, -5, -4, -3, -2, -1,
        0, 1, 2, 3, 4, 5, 6, 7, 8, 9, 10, 11, 12, 13, 14, 79, 80, 81, 100, 101, 1000, 1001, Yards.MAX - 1, Yards.MAX};

    public static void main(String[] args) {
        CustomsYard fresh = new CustomsYard(), busy = RefusalsTest.busy(), full = RefusalsTest.busy();
        RefusalsTest.fill(full);
        for (CustomsYard yard : new CustomsYard[] {fresh, busy, full}) {
            allCalls(yard);
            allCounts(yard);
        }
        System.out.println("no call has thrown");
    }

    private static void allCalls(CustomsYard yard) {
        // From the last call back to load(), so that a fresh yard is asked before it has LOADS.
        for (int which = ModelTest.NAMES.length - 1; which >= 0; which--) {
            for (int a : WILD) {
                for (int b : WILD) {
                    for (int c : WILD) {
                        ModelTest.call(yard, which, a, b, c);
                    }
                }
            }
        }
    }

    private static void allCounts(CustomsYard yard) {
        for (int what : WILD) {
            yard.count(what);
        }
        yard.refused();
    }
}
