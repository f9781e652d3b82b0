/** Promises 15 to 21: weaver, share, orderOf, wovenBy, next, count, setting. */
public final class LookTest {
    private static final int LOW = Integer.MIN_VALUE;
    private static final int HIGH = Integer.MAX_VALUE;

    private LookTest() {
    }

    public static void main(String[] args) {
        weaver();
        share();
        orderOf();
        orderOfManyLooms();
        wovenBy();
        next();
        nextWithYarn();
        count();
        countOfSaved();
        setting();
        Check.end("LookTest");
    }

    /** Three hours: order 0 is woven by 0 with two faults, order 1 by 4, and 5 never had yarn. */
    static WeaveShares busy() {
        WeaveShares x = new WeaveShares();
        x.loom(0, 90, 5, 4);
        x.loom(4, 130, 2, 0);
        x.loom(5, 200, 1, 3);
        x.store(0, 100);
        x.yarn(4, 0, 21);
        x.order(0, 85, 12, 6, 3);
        x.order(1, 125, 20, 8, 2);
        x.order(0, 131, 9, 4, 9);
        x.pass(2);
        x.set(0, 1);
        x.store(1, 30);
        x.pass(1);
        return x;
    }

    /** An hour later, behind which order 0 is done by all three. */
    static WeaveShares paid() {
        WeaveShares x = busy();
        Check.due("cancel(1)", x.cancel(1), 2);
        x.yarn(5, 0, 100);
        x.set(0, 0);
        Check.due("pass(1)", x.pass(1), 1);
        return x;
    }

    private static void weavers(WeaveShares x, int[][] want) {
        for (int w = 0; w < 6; w++) {
            for (int what = 0; what < 8; what++) {
                int weaver = w;
                int asked = what;
                Check.look("weaver(" + w + ", " + what + ")", x, () -> x.weaver(weaver, asked),
                        want[w][what]);
            }
        }
    }

    private static void weaver() {
        int[] none = new int[8];
        weavers(busy(), new int[][] {{90, 5, 4, 99, 0, 11, 2, 99}, none, none, none,
            {130, 2, 0, 26, 0, 2, 0, 26}, {200, 1, 3, 0, 0, 0, 0, 0}});
        WeaveShares x = paid();
        weavers(x, new int[][] {{90, 5, 4, 45, 0, 11, 2, 99}, none, none, none,
            {130, 2, 0, 14, 0, 4, 0, 26}, {200, 1, 3, 0, 6, 1, 0, 0}});
        for (int w : new int[] {LOW, -1, 6, HIGH}) {
            Check.index("weaver(" + w + ", 0)", x, () -> x.weaver(w, 0));
            Check.index("weaver(" + w + ", 8)", x, () -> x.weaver(w, 8));
        }
        for (int what : new int[] {LOW, -1, 8, HIGH}) {
            Check.argument("weaver(0, " + what + ")", x, () -> x.weaver(0, what));
        }
    }

    private static void share() {
        WeaveShares x = paid();
        int[][] want = {{1, 4, 0, 0}, {0, 0, 0, 0}, {0, 0, 0, 0}, {0, 0, 0, 0}, {0, 0, 0, 0},
            {3, 0, 0, 0}, {91, 0, 0, 0}};
        for (int w = -1; w < 6; w++) {
            for (int c = 0; c < 4; c++) {
                int weaver = w;
                int colour = c;
                Check.look("share(" + w + ", " + c + ")", x, () -> x.share(weaver, colour),
                        want[w + 1][c]);
            }
        }
        for (int wrong : new int[] {LOW, -2, 6, HIGH}) {
            Check.index("share(" + wrong + ", 0)", x, () -> x.share(wrong, 0));
        }
        for (int wrong : new int[] {LOW, -1, 4, HIGH}) {
            Check.index("share(0, " + wrong + ")", x, () -> x.share(0, wrong));
            Check.index("share(-1, " + wrong + ")", x, () -> x.share(-1, wrong));
        }
    }

    private static void orderOf() {
        WeaveShares x = busy();
        int[][] want = {{1, 1, 125, 20, 8, 2, 2, 234, 2}, {0, 0, 85, 12, 6, 3, 9, 27, 3},
            {2, 0, 131, 9, 4, 9, 0, 126, 1}};
        for (int p = 0; p < 3; p++) {
            for (int what = 0; what < 9; what++) {
                int place = p;
                int asked = what;
                Check.look("orderOf(" + p + ", " + what + ")", x, () -> x.orderOf(place, asked),
                        want[p][what]);
            }
        }
        for (int place : new int[] {3, 9, 10, 11, HIGH}) {
            for (int what = 0; what < 9; what++) {
                Check.due("orderOf(" + place + ", " + what + ")", x.orderOf(place, what), -1);
            }
            Check.argument("orderOf(" + place + ", 9)", x, () -> x.orderOf(place, 9));
            Check.argument("orderOf(" + place + ", -1)", x, () -> x.orderOf(place, -1));
        }
        for (int what : new int[] {LOW, -1, 9, HIGH}) {
            Check.argument("orderOf(0, " + what + ")", x, () -> x.orderOf(0, what));
        }
        Check.argument("orderOf(-1, 0)", x, () -> x.orderOf(-1, 0));
        Check.argument("orderOf(LOW, 0)", x, () -> x.orderOf(LOW, 0));
    }

    private static void orderOfManyLooms() {
        WeaveShares x = new WeaveShares();
        for (int w = 0; w < 6; w++) {
            x.loom(w, 40 + 30 * w, 1, 0);
        }
        x.order(0, 40, 1, 1, 0);
        x.order(0, 41, 1, 1, 1);
        x.order(0, 70, 1, 1, 2);
        x.order(0, 190, 1, 1, 3);
        x.order(0, 191, 1, 1, 4);
        int[] wide = {6, 5, 5, 1, 0};
        int[] grams = {4, 5, 7, 19, 20};
        for (int i = 0; i < 5; i++) {
            Check.due("looms wide enough for " + i, x.orderOf(i, 8), wide[i]);
            Check.due("grams for " + i, x.orderOf(i, 7), grams[i]);
        }
    }

    private static void wovenBy() {
        WeaveShares x = busy();
        int[][] want = {{0, 0, 0, 0, 2, 0}, {9, 0, 0, 0, 0, 0}, {0, 0, 0, 0, 0, 0},
            {-1, -1, -1, -1, -1, -1}};
        for (int p = 0; p < 4; p++) {
            for (int w = 0; w < 6; w++) {
                int place = p;
                int weaver = w;
                Check.look("wovenBy(" + p + ", " + w + ")", x, () -> x.wovenBy(place, weaver),
                        want[p][w]);
            }
        }
        Check.due("wovenBy(HIGH, 0)", x.wovenBy(HIGH, 0), -1);
        for (int place : new int[] {LOW, -1}) {
            Check.argument("wovenBy(" + place + ", 0)", x, () -> x.wovenBy(place, 0));
            Check.argument("wovenBy(" + place + ", 6)", x, () -> x.wovenBy(place, 6));
        }
        for (int w : new int[] {LOW, -1, 6, HIGH}) {
            Check.index("wovenBy(0, " + w + ")", x, () -> x.wovenBy(0, w));
            Check.index("wovenBy(7, " + w + ")", x, () -> x.wovenBy(7, w));
        }
    }

    private static void next() {
        nexts(busy(), new int[] {0, -1, -1, -1, 1, 2}, new int[] {3, 1, 1, 1, 3, 3});
        WeaveShares x = paid();
        nexts(x, new int[] {-1, -1, -1, -1, -1, 2}, new int[] {2, 1, 1, 1, 2, 0});
        for (int w : new int[] {LOW, -1, 6, HIGH}) {
            Check.index("next(" + w + ", 0)", x, () -> x.next(w, 0));
            Check.index("next(" + w + ", 2)", x, () -> x.next(w, 2));
        }
        for (int what : new int[] {LOW, -1, 2, HIGH}) {
            Check.argument("next(0, " + what + ")", x, () -> x.next(0, what));
        }
    }

    private static void nexts(WeaveShares x, int[] numbers, int[] reasons) {
        for (int w = 0; w < 6; w++) {
            int weaver = w;
            Check.look("next(" + w + ", 0)", x, () -> x.next(weaver, 0), numbers[w]);
            Check.look("next(" + w + ", 1)", x, () -> x.next(weaver, 1), reasons[w]);
        }
    }

    private static void nextWithYarn() {
        WeaveShares x = new WeaveShares();
        x.loom(1, 100, 5, 0);
        x.order(2, 81, 10, 5, 5);
        x.yarn(1, 2, 8);
        x.store(2, 8);
        Check.due("share and store do not add up", x.next(1, 1), 3);
        x.yarn(1, 2, 1);
        Check.due("the share is enough", x.next(1, 1), 0);
        x.yarn(1, 2, -9);
        x.store(2, 1);
        Check.due("the store is enough", x.next(1, 1), 0);
        x.set(1, 0);
        Check.due("the store does not lend", x.next(1, 1), 3);
        Check.due("but it is chosen", x.next(1, 0), 0);
    }

    private static void count() {
        WeaveShares x = busy();
        counts(x, new int[] {3, 3, 0, 0, 0, 13, 2, 125, 125, 3, 5, 6});
        WeaveShares y = paid();
        counts(y, new int[] {4, 1, 1, 0, 72, 16, 2, 152, 59, 3, 6, 6});
        for (int what : new int[] {LOW, -1, 12, HIGH}) {
            Check.argument("count(" + what + ")", y, () -> y.count(what));
        }
    }

    private static void counts(WeaveShares x, int[] want) {
        for (int what = 0; what < 12; what++) {
            int asked = what;
            Check.look("count(" + what + ")", x, () -> x.count(asked), want[what]);
        }
    }

    private static void countOfSaved() {
        WeaveShares x = new WeaveShares();
        x.append('1');
        x.firstError();
        x.clearBuffer();
        x.ifPassed(9, 0);
        Check.due("looks save nothing", x.count(11), 0);
        int before = 0;
        x.loom(0, 0, 0, 0);
        Check.due("loom saves", x.count(11), ++before);
        x.yarn(0, 0, 9);
        Check.due("yarn saves", x.count(11), ++before);
        x.store(0, 9);
        Check.due("store saves", x.count(11), ++before);
        x.give(0, 1, 0, 9);
        Check.due("give saves", x.count(11), ++before);
        x.order(0, 50, 9, 9, 9);
        Check.due("order saves", x.count(11), ++before);
        x.undo();
        x.undo();
        x.undo();
        x.undo();
        x.undo();
        before = 0;
        Check.append(x, "9x50c0");
        x.takeAll();
        Check.due("takeAll saves", x.count(11), ++before);
        x.cancel(0);
        Check.due("cancel saves", x.count(11), ++before);
        x.set(0, 0);
        Check.due("set saves", x.count(11), ++before);
        x.pass(99);
        Check.due("pass saves once", x.count(11), ++before);
    }

    private static void setting() {
        WeaveShares x = new WeaveShares();
        int[] values = {2, 0, 17, 8};
        for (int i = 0; i < 4; i++) {
            x.set(i, values[i]);
        }
        for (int i = 0; i < 4; i++) {
            int asked = i;
            Check.look("setting(" + i + ")", x, () -> x.setting(asked), values[i]);
        }
        for (int wrong : new int[] {LOW, -1, 4, HIGH}) {
            Check.index("setting(" + wrong + ")", x, () -> x.setting(wrong));
        }
    }
}
