/** Sentences with bounds: what is paid when an order is done, "Settings", and promises 8 and 21. */
public final class PayBoundsTest {
    private static final int[] FIRST = {0, 1, 5, 1};
    private static final int[] MOST = {2, 1, 50, 9};

    private PayBoundsTest() {
    }

    public static void main(String[] args) {
        pay();
        debts();
        settings();
        Check.end("PayBoundsTest");
    }

    private static void pay() {
        Check.sentence("When an order is done, it is paid at once, and gone", PayBoundsTest::atOnce);
        Check.sentence("the whole is its price times its length", PayBoundsTest::wholeInTime);
        Check.sentence("less (this times the late hours times setting 2, divided by 100)",
                PayBoundsTest::lateCost);
        Check.sentence("the late hours are the hours that have gone (this one not included) less its"
                + " due hour, if that is above 0", PayBoundsTest::lateHours);
        Check.sentence("the whole is not below 0", PayBoundsTest::notBelowZero);
        Check.sentence("the whole is not below 0", PayBoundsTest::beyondAnInt);
        Check.sentence("Each weaver is due the whole times the own good decimetres of it, divided by"
                + " its length", PayBoundsTest::dividedByLength);
        Check.sentence("what is left over goes to the weaver with most good decimetres of it",
                PayBoundsTest::leftOver);
        Check.sentence("of several the lowest", PayBoundsTest::leftOverOfSeveral);
        Check.sentence("divisions are rounded down", PayBoundsTest::roundedDown);
    }

    private static void debts() {
        Check.sentence("the debt is paid: setting 3 for each gram, as many whole grams as there are",
                PayBoundsTest::allTheDebt);
        Check.sentence("and as it suffices for", PayBoundsTest::asItSuffices);
        Check.sentence("with setting 3 as 0 all of them", PayBoundsTest::costOfZero);
        Check.sentence("also of weavers who are due nothing", PayBoundsTest::dueNothing);
        Check.sentence("the rest is earned", PayBoundsTest::theRest);
    }

    private static void settings() {
        Check.sentence("0: the rule, 0 to 2, at first 0", () -> settingBounds(0));
        Check.sentence("1: 1 if the store lends, otherwise 0, at first 1", () -> settingBounds(1));
        Check.sentence("2: hundredths that a late hour costs, 0 to 50, at first 5",
                () -> settingBounds(2));
        Check.sentence("3: what a gram of debt costs, 0 to 9, at first 1", () -> settingBounds(3));
        Check.sentence("set: Returns the previous value.", PayBoundsTest::previousValues);
        Check.sentence("if there is no such setting", PayBoundsTest::noSuchSetting);
    }

    /** An order of nine with a price of 11, which is done in one hour by weaver 0 alone. */
    private static WeaveShares nineAt(int hours, int due, int cost) {
        WeaveShares x = Made.at(hours);
        x.set(2, cost);
        x.loom(0, 50, 9, 0);
        x.yarn(0, 0, 45);
        x.order(0, 50, 9, 11, due);
        return x;
    }

    private static void paidAt(int hours, int due, int cost, int pay, int late) {
        String call = "done at " + hours + ", due at " + due + ", cost " + cost + ": ";
        WeaveShares x = nineAt(hours, due, cost);
        Check.due(call + "would be paid", x.ifPassed(1, 1), pay);
        Check.due(call + "would be late", x.ifPassed(1, 4), late);
        Check.due(call + "pass(1)", x.pass(1), 1);
        Check.due(call + "paid", x.count(4), pay);
        Check.due(call + "earned", x.weaver(0, 4), pay);
        Check.due(call + "late", x.count(3), late);
        Check.due(call + "done", x.count(2), 1);
        Check.due(call + "orders", x.count(1), 0);
    }

    private static void atOnce() {
        WeaveShares x = new WeaveShares();
        x.loom(0, 50, 2, 0);
        x.loom(1, 50, 2, 0);
        x.store(0, 20);
        x.order(0, 50, 2, 50, 0);
        x.order(0, 50, 2, 1, 1);
        // 1 weaves the next one in the same hour; each pays the own debt from the own pay.
        Check.due("pass(1)", x.pass(1), 2);
        Check.due("earned by 0", x.weaver(0, 4), 90);
        Check.due("debt of 1", x.weaver(1, 3), 8);
        Check.due("orders", x.count(1), 0);
        Check.due("orderOf(0, 0)", x.orderOf(0, 0), WeaveShares.NONE);
        Check.index("cancel(0)", x, () -> x.cancel(0));
        // With setting 3 as 0, what 1 borrows behind the first order's end is not cleared by it.
        WeaveShares y = new WeaveShares();
        y.set(3, 0);
        y.loom(0, 50, 2, 0);
        y.loom(1, 50, 2, 0);
        y.store(0, 30);
        y.order(0, 50, 2, 50, 0);
        y.order(0, 50, 9, 1, 1);
        Check.due("pass(1)", y.pass(1), 1);
        Check.due("debt of 0", y.weaver(0, 3), 0);
        Check.due("debt of 1", y.weaver(1, 3), 10);
    }

    private static void wholeInTime() {
        int[][] orders = {{1, 1, 1}, {99, 1, 99}, {1, 200, 200}, {99, 200, 19800}, {7, 13, 91}};
        for (int[] one : orders) {
            WeaveShares x = Made.weaving(9, 0);
            x.order(0, 40, one[1], one[0], 9999);
            Check.due("pass(99)", x.pass(99), 1);
            Check.due("paid for " + one[1] + " of " + one[0], x.count(4), one[2]);
            Check.due("earned for " + one[1] + " of " + one[0], x.weaver(0, 4), one[2]);
        }
    }

    private static void lateCost() {
        // 99 * 3 * the cost / 100 is rounded down before it is taken off.
        paidAt(10, 7, 0, 99, 1);
        paidAt(10, 7, 1, 97, 1);
        paidAt(10, 7, 2, 94, 1);
        paidAt(10, 7, 5, 85, 1);
        paidAt(10, 7, 33, 1, 1);
        paidAt(10, 9, 1, 99, 1);
        paidAt(10, 8, 1, 98, 1);
        paidAt(10, 9, 50, 50, 1);
    }

    private static void lateHours() {
        paidAt(10, 11, 50, 99, 0);
        paidAt(10, 10, 50, 99, 0);
        paidAt(10, 9, 50, 50, 1);
        paidAt(0, 0, 50, 99, 0);
        paidAt(1, 0, 50, 50, 1);
        paidAt(10, 9999, 50, 99, 0);
        paidAt(9998, 9998, 50, 99, 0);
        paidAt(9998, 9997, 50, 50, 1);
        // It is the hour in which it is done that counts: here the second one of two.
        WeaveShares x = Made.weaving(5, 0);
        x.order(0, 50, 9, 11, 0);
        Check.due("pass(2)", x.pass(2), 1);
        Check.due("paid an hour late", x.count(4), 95);
        Check.due("late", x.count(3), 1);
        WeaveShares y = Made.weaving(5, 0);
        y.order(0, 50, 9, 11, 1);
        Check.due("pass(2)", y.pass(2), 1);
        Check.due("paid in time", y.count(4), 99);
        Check.due("late", y.count(3), 0);
    }

    private static void notBelowZero() {
        paidAt(10, 8, 49, 2, 1);
        paidAt(10, 8, 50, 0, 1);
        paidAt(10, 7, 50, 0, 1);
        paidAt(10, 0, 50, 0, 1);
        paidAt(20, 0, 5, 0, 1);
        paidAt(19, 0, 5, 5, 1);
        paidAt(100, 0, 1, 0, 1);
        paidAt(99, 0, 1, 1, 1);
        paidAt(101, 0, 1, 0, 1);
        // A debt stays when nothing is paid for it.
        WeaveShares x = nineAt(50, 0, 50);
        x.yarn(0, 0, -45);
        x.store(0, 45);
        Check.due("pass(1)", x.pass(1), 1);
        Check.due("debt", x.weaver(0, 3), 45);
        Check.due("earned", x.weaver(0, 4), 0);
    }

    private static void beyondAnInt() {
        paidAt(9998, 0, 50, 0, 1);
        paidAt(9998, 0, 5, 0, 1);
        // 19800 times the late hours times 50 goes beyond an int at 2170, and around it at 4339.
        for (int hours : new int[] {2169, 2170, 4338, 4339, 4400, 6508, 8678, 9900}) {
            WeaveShares x = Made.at(hours - 22);
            x.set(2, 50);
            x.loom(0, 40, 9, 0);
            x.yarn(0, 0, 800);
            x.order(0, 40, 200, 99, 0);
            x.pass(22);
            Check.due("dueNow(0, 0) of 198 at " + hours, x.dueNow(0, 0), 0);
            Check.due("ifPassed(1, 1) at " + hours, x.ifPassed(1, 1), 0);
            Check.due("pass(1) at " + hours, x.pass(1), 1);
            Check.due("paid at " + hours, x.count(4), 0);
            Check.due("earned at " + hours, x.weaver(0, 4), 0);
            Check.due("late at " + hours, x.count(3), 1);
        }
    }

    /** Weaves an order of the speeds' sum in an hour, so many by each weaver, and tells the pay. */
    private static WeaveShares splitBy(int price, int late, int... speeds) {
        WeaveShares x = Made.at(late);
        int length = 0;
        for (int w = 0; w < speeds.length; w++) {
            if (speeds[w] > 0) {
                x.loom(w, 50, speeds[w], 0);
                x.yarn(w, 0, 99);
            }
            length += speeds[w];
        }
        x.order(0, 50, length, price, 0);
        Check.due("pass(1)", x.pass(1), 1);
        return x;
    }

    private static void earned(WeaveShares x, int... want) {
        int sum = 0;
        for (int w = 0; w < want.length; w++) {
            Check.due("earned by " + w, x.weaver(w, 4), want[w]);
            sum += want[w];
        }
        Check.due("paid", x.count(4), sum);
    }

    private static void dividedByLength() {
        earned(splitBy(7, 0, 1, 2, 3, 4, 5, 6), 7, 14, 21, 28, 35, 42);
        // An hour late, 63 less 3 are 60, of seven: 17, 25, 17, and one over.
        earned(splitBy(9, 1, 2, 3, 2), 17, 26, 17, 0, 0, 0);
        earned(splitBy(99, 0, 9), 891, 0, 0, 0, 0, 0);
    }

    private static void leftOver() {
        // Eight late hours: 36 less 14 are 22, of twelve.
        earned(splitBy(3, 8, 2, 3, 1, 6), 3, 5, 1, 13);
        earned(splitBy(3, 8, 6, 3, 1, 2), 13, 5, 1, 3);
        earned(splitBy(3, 8, 1, 2, 6, 3), 1, 3, 13, 5);
        // 19 late hours: 10 less 9 is 1, which nobody is due of ten: all of it is left over.
        earned(splitBy(1, 19, 3, 4, 3), 0, 1, 0);
        // As many as there are weavers but one: 30 less 12 at eight late hours are 18, of six.
        earned(splitBy(5, 8, 0, 1, 1, 1, 1, 2), 0, 3, 3, 3, 3, 6);
        // 17 of six: 2, 2, 2, 2, 5, and four over.
        earned(splitBy(3, 2, 0, 1, 1, 1, 1, 2), 0, 2, 2, 2, 2, 9);
    }

    private static void leftOverOfSeveral() {
        earned(splitBy(7, 1, 1, 2, 2), 6, 15, 13);
        earned(splitBy(7, 1, 2, 2, 1), 15, 13, 6);
        earned(splitBy(7, 1, 2, 1, 2), 15, 6, 13);
        earned(splitBy(3, 2, 1, 1, 1, 1, 1, 1), 7, 2, 2, 2, 2, 2);
        earned(splitBy(3, 2, 0, 0, 3, 0, 0, 3), 0, 0, 9, 0, 0, 8);
    }

    private static void roundedDown() {
        // 19 hundredths, 99 hundredths and a whole one of the late cost.
        int[][] lates = {{19, 1}, {20, 0}};
        for (int[] one : lates) {
            WeaveShares x = Made.at(one[0]);
            x.loom(0, 50, 1, 0);
            x.yarn(0, 0, 5);
            x.order(0, 50, 1, 1, 0);
            x.pass(1);
            Check.due("paid for 1 at " + one[0], x.count(4), one[1]);
        }
        paidAt(1, 0, 1, 99, 1);
        paidAt(2, 0, 1, 98, 1);
        // 11 for one and two of three are 3 and 7, and one is left over.
        earned(splitBy(4, 2, 1, 2), 3, 8);
        // 20 pay for two grams of debt at 9.
        owes(4, 9, 23, 2);
    }

    /** Weaver 0 owes 25 grams, and is paid as much for one order of five. */
    private static WeaveShares owing(int price, int cost) {
        WeaveShares x = new WeaveShares();
        x.set(3, cost);
        x.loom(0, 50, 5, 0);
        x.store(0, 25);
        x.order(0, 50, 5, price, 9);
        Check.due("pass(1)", x.pass(1), 1);
        return x;
    }

    private static void owes(int price, int cost, int debt, int earned) {
        String call = "a debt of 25 at " + cost + " from a pay of " + 5 * price + ": ";
        WeaveShares x = owing(price, cost);
        Check.due(call + "debt", x.weaver(0, 3), debt);
        Check.due(call + "earned", x.weaver(0, 4), earned);
        Check.due(call + "paid, with what went for debts", x.count(4), 5 * price);
        Check.due(call + "debt of all", x.count(8), debt);
        Check.due(call + "borrowed so far", x.weaver(0, 7), 25);
        Check.due(call + "store", x.share(WeaveShares.NONE, 0), 0);
        Check.due(call + "share", x.share(0, 0), 0);
    }

    private static void allTheDebt() {
        owes(5, 1, 0, 0);
        owes(6, 1, 0, 5);
        owes(10, 2, 0, 0);
        owes(11, 2, 0, 5);
        owes(45, 9, 0, 0);
        owes(46, 9, 0, 5);
        owes(99, 9, 0, 270);
    }

    private static void asItSuffices() {
        owes(4, 1, 5, 0);
        owes(1, 1, 20, 0);
        owes(9, 2, 3, 1);
        owes(1, 2, 23, 1);
        owes(1, 9, 25, 5);
        owes(2, 9, 24, 1);
        owes(44, 9, 1, 4);
        owes(9, 9, 20, 0);
        // What stays of the debt is paid from the next pay.
        WeaveShares x = owing(4, 1);
        x.yarn(0, 0, 25);
        x.order(0, 50, 5, 4, 9);
        x.pass(1);
        Check.due("debt", x.weaver(0, 3), 0);
        Check.due("earned", x.weaver(0, 4), 15);
    }

    private static void costOfZero() {
        owes(1, 0, 0, 5);
        owes(99, 0, 0, 495);
        // Also if nothing is paid.
        WeaveShares x = nineAt(50, 0, 50);
        x.set(3, 0);
        x.yarn(0, 0, -45);
        x.store(0, 45);
        Check.due("pass(1)", x.pass(1), 1);
        Check.due("paid", x.count(4), 0);
        Check.due("debt", x.weaver(0, 3), 0);
        Check.due("borrowed so far", x.weaver(0, 7), 45);
    }

    /** 1 and 5 owe for an order that was cancelled; 2 weaves one alone. */
    private static WeaveShares othersOwe(int cost) {
        WeaveShares x = new WeaveShares();
        x.loom(1, 50, 3, 0);
        x.loom(5, 50, 2, 0);
        x.store(0, 99);
        x.order(0, 50, 50, 9, 9);
        x.pass(1);
        x.cancel(0);
        x.loom(5, 0, 0, 0);
        x.loom(1, 40, 1, 0);
        x.loom(2, 50, 1, 0);
        x.yarn(2, 0, 5);
        x.set(3, cost);
        x.order(0, 50, 1, 9, 9);
        Check.due("pass(1)", x.pass(1), 1);
        return x;
    }

    private static void dueNothing() {
        WeaveShares x = othersOwe(0);
        Check.due("debt of 1", x.weaver(1, 3), 0);
        Check.due("debt of 5, without a loom", x.weaver(5, 3), 0);
        Check.due("debt of all", x.count(8), 0);
        Check.due("earned by 1", x.weaver(1, 4), 0);
        Check.due("earned by 2", x.weaver(2, 4), 9);
        Check.due("borrowed by 1 so far", x.weaver(1, 7), 15);
        WeaveShares y = othersOwe(1);
        Check.due("debt of 1 at a cost of 1", y.weaver(1, 3), 15);
        Check.due("debt of 5 at a cost of 1", y.weaver(5, 3), 10);
        Check.due("earned by 2 at a cost of 1", y.weaver(2, 4), 9);
        // The setting alone clears nothing, nor do hours in which no order is done.
        WeaveShares z = othersOwe(9);
        z.set(3, 0);
        z.pass(9);
        Check.due("debt of all, when no order is done", z.count(8), 25);
    }

    private static void theRest() {
        // Each pays the own debt alone: 0 owes 15 of 27, 1 owes nothing of 18.
        WeaveShares x = new WeaveShares();
        x.loom(0, 50, 3, 0);
        x.loom(1, 50, 2, 0);
        x.yarn(1, 0, 10);
        x.store(0, 15);
        x.order(0, 50, 5, 9, 0);
        Check.due("pass(1)", x.pass(1), 1);
        Check.due("earned by 0", x.weaver(0, 4), 12);
        Check.due("earned by 1", x.weaver(1, 4), 18);
        Check.due("paid", x.count(4), 45);
        // The debt is paid from what is left over too: 17 of six hours by one each.
        WeaveShares y = Made.at(2);
        for (int w = 0; w < 6; w++) {
            y.loom(w, 50, 1, 0);
        }
        y.store(0, 30);
        y.order(0, 50, 6, 3, 0);
        Check.due("pass(1)", y.pass(1), 1);
        Check.due("earned by 0", y.weaver(0, 4), 2);
        Check.due("debt of 0", y.weaver(0, 3), 0);
        Check.due("debt of 1", y.weaver(1, 3), 3);
        Check.due("earned by 1", y.weaver(1, 4), 0);
    }

    private static void settingBounds(int setting) {
        WeaveShares x = new WeaveShares();
        for (int i = 0; i < 4; i++) {
            Check.due("setting(" + i + ") at first", x.setting(i), FIRST[i]);
        }
        for (int value : new int[] {0, MOST[setting], MOST[setting] - 1, 0}) {
            int before = x.setting(setting);
            Check.due("set(" + setting + ", " + value + ")", x.set(setting, value), before);
            Check.due("setting(" + setting + ")", x.setting(setting), value);
            for (int i = 0; i < 4; i++) {
                Check.due("setting(" + i + ")", x.setting(i), i == setting ? value : FIRST[i]);
            }
        }
        Check.argumentEach("set(" + setting + ")", Made::busy, Made.outside(0, MOST[setting]),
                (y, value) -> y.set(setting, value));
    }

    private static void previousValues() {
        WeaveShares x = new WeaveShares();
        int[] values = {50, 0, 0, 49, 5};
        int previous = 5;
        for (int value : values) {
            Check.due("set(2, " + value + ")", x.set(2, value), previous);
            previous = value;
        }
    }

    private static void noSuchSetting() {
        Check.indexEach("set", Made::busy, Made.outside(0, 3), (x, setting) -> x.set(setting, 0));
        Check.indexEach("setting", Made::busy, Made.outside(0, 3), WeaveShares::setting);
    }
}
