/** Sentences with bounds: promises 15 to 20. */
public final class LookBoundsTest {
    private static final int NONE = WeaveShares.NONE;
    private static final int LOW = Integer.MIN_VALUE;
    private static final int HIGH = Integer.MAX_VALUE;

    private LookBoundsTest() {
    }

    public static void main(String[] args) {
        Check.sentence("There is nothing to return.", LookBoundsTest::none);
        Check.sentence("looks; nothing is changed", LookBoundsTest::nothingIsChanged);
        Check.sentence("if what is not 0 to 7", LookBoundsTest::weaverWhat);
        Check.sentence("0: the width of the loom, 0 without one", LookBoundsTest::withoutALoom);
        Check.sentence("0 for both without a loom", LookBoundsTest::withoutALoom);
        Check.sentence("0 to 5, or NONE: the store", LookBoundsTest::shareOfTheStore);
        orders();
        next();
        count();
        Check.end("LookBoundsTest");
    }

    private static void orders() {
        Check.sentence("orderOf: NONE if there are not so many orders.", LookBoundsTest::placesOfOrders);
        Check.sentence("if place is below 0, or what is not 0 to 8", LookBoundsTest::orderOfRefused);
        Check.sentence("6: good decimetres so far; 7: grams that the rest of it takes without faults",
                LookBoundsTest::goodAndRest);
        Check.sentence("8: looms that are wide enough", LookBoundsTest::wideEnough);
        Check.sentence("wovenBy: NONE if there are not so many orders.",
                LookBoundsTest::placesOfWovenBy);
        Check.sentence("wovenBy: if place is below 0", LookBoundsTest::wovenByRefused);
    }

    private static void next() {
        Check.sentence("if what is not 0 or 1", LookBoundsTest::nextWhat);
        Check.sentence("the number of the order that would be chosen, NONE if none is",
                LookBoundsTest::nextNumber);
        Check.sentence("0 if it can be begun; 1 without a loom; 2 if no order fits; 3 if there is no"
                + " yarn for it", LookBoundsTest::nextReason);
        Check.sentence("if it was this weaver's turn now, and no other one had woven",
                LookBoundsTest::nextNow);
    }

    private static void count() {
        Check.sentence("if what is not 0 to 11", LookBoundsTest::countWhat);
        Check.sentence("1: orders; 2: orders that are done so far", LookBoundsTest::countOrders);
        Check.sentence("3: of these late ones", LookBoundsTest::countLate);
        Check.sentence("4: what was paid for orders so far, with what went for debts",
                LookBoundsTest::countPaid);
        Check.sentence("5: decimetres that were woven so far; 6: faults so far; 7: grams that were used"
                + " so far; 8: the debt of all weavers", LookBoundsTest::countWoven);
        Check.sentence("9: looms", LookBoundsTest::countLooms);
        Check.sentence("10: hours in which looms wove nothing so far (each loom by itself)",
                LookBoundsTest::countIdle);
        Check.sentence("11: saved states", LookBoundsTest::countSaved);
    }

    private static void none() {
        Check.due("NONE", NONE, -1);
        Check.due("orderOf(0, 0)", new WeaveShares().orderOf(0, 0), -1);
        Check.due("next(0, 0)", new WeaveShares().next(0, 0), -1);
    }

    private static void nothingIsChanged() {
        for (Check.Maker maker : new Check.Maker[] {WeaveShares::new, Made::busy, Made::full,
            LookTest::paid, () -> Made.at(9999)}) {
            Check.changesNothing("weaver", maker, x -> x.weaver(0, 7));
            Check.changesNothing("share", maker, x -> x.share(5, 3));
            Check.changesNothing("share of the store", maker, x -> x.share(NONE, 3));
            Check.changesNothing("orderOf", maker, x -> x.orderOf(0, 8));
            Check.changesNothing("wovenBy", maker, x -> x.wovenBy(0, 0));
            Check.changesNothing("next", maker, x -> x.next(0, 0));
            Check.changesNothing("next", maker, x -> x.next(4, 1));
            Check.changesNothing("count", maker, x -> x.count(11));
            Check.changesNothing("setting", maker, x -> x.setting(3));
            Check.changesNothing("firstError", maker, x -> x.firstError());
        }
    }

    private static void weaverWhat() {
        WeaveShares x = LookTest.paid();
        Check.due("weaver(0, 0)", x.weaver(0, 0), 90);
        Check.due("weaver(0, 7)", x.weaver(0, 7), 99);
        Check.argumentEach("weaver(0, ...)", Made::busy, Made.outside(0, 7), (y, what) -> y.weaver(0, what));
        Check.argumentEach("weaver(5, ...)", Made::busy, Made.outside(0, 7), (y, what) -> y.weaver(5, what));
    }

    private static void withoutALoom() {
        WeaveShares x = LookTest.paid();
        int[] want = {0, 0, 0, 45, 0, 11, 2, 99};
        x.loom(0, 0, 9, 9);
        for (int what = 0; what < 8; what++) {
            Check.due("weaver(0, " + what + ") without a loom", x.weaver(0, what), want[what]);
            Check.due("weaver(1, " + what + ") that never had one", x.weaver(1, what), 0);
        }
    }

    private static void shareOfTheStore() {
        WeaveShares x = new WeaveShares();
        for (int c = 0; c < 4; c++) {
            x.store(c, 10 + c);
            x.yarn(0, c, 20 + c);
            x.yarn(5, c, 30 + c);
        }
        for (int c = 0; c < 4; c++) {
            Check.due("share(NONE, " + c + ")", x.share(NONE, c), 10 + c);
            Check.due("share(0, " + c + ")", x.share(0, c), 20 + c);
            Check.due("share(5, " + c + ")", x.share(5, c), 30 + c);
        }
    }

    private static void placesOfOrders() {
        for (int orders = 0; orders <= 10; orders++) {
            WeaveShares x = new WeaveShares();
            for (int i = 0; i < orders; i++) {
                x.order(0, 50, 5, 5, 5);
            }
            for (int what = 0; what < 9; what++) {
                for (int place : new int[] {orders, orders + 1, 10, 11, 99, HIGH}) {
                    Check.due("orderOf(" + place + ", " + what + ") with " + orders,
                            x.orderOf(place, what), NONE);
                }
            }
            if (orders > 0) {
                Check.due("orderOf of the last one", x.orderOf(orders - 1, 0), orders - 1);
            }
        }
        // One that is gone leaves no trace behind the last one.
        WeaveShares x = Made.full();
        x.cancel(0);
        Check.due("orderOf(8, 0)", x.orderOf(8, 0), 9);
        for (int what = 0; what < 9; what++) {
            Check.due("orderOf(9, " + what + ")", x.orderOf(9, what), NONE);
        }
    }

    private static void orderOfRefused() {
        int[] below = {LOW, -10, -2, -1};
        Check.argumentEach("orderOf(..., 0)", Made::busy, below, (x, place) -> x.orderOf(place, 0));
        Check.argumentEach("orderOf(..., 0)", WeaveShares::new, below, (x, place) -> x.orderOf(place, 0));
        Check.argumentEach("orderOf(0, ...)", Made::busy, Made.outside(0, 8),
                (x, what) -> x.orderOf(0, what));
        // Also where there is no order.
        Check.argumentEach("orderOf(99, ...)", Made::busy, Made.outside(0, 8),
                (x, what) -> x.orderOf(99, what));
        Check.argumentEach("orderOf(0, ...)", WeaveShares::new, Made.outside(0, 8),
                (x, what) -> x.orderOf(0, what));
        Check.refusesArgument("orderOf(-1, 9)", Made::busy, x -> x.orderOf(-1, 9));
        Check.due("orderOf(0, 8)", Made.busy().orderOf(0, 8), 2);
    }

    private static void goodAndRest() {
        WeaveShares x = Made.weaving(1, 3);
        x.order(0, 91, 5, 5, 5);
        // The third and the sixth have faults.
        int[] good = {0, 1, 2, 2, 3, 4, 4};
        for (int hour = 0; hour < good.length; hour++) {
            Check.due("good in hour " + hour, x.orderOf(0, 6), good[hour]);
            Check.due("rest in hour " + hour, x.orderOf(0, 7), 10 * (5 - good[hour]));
            Check.due("woven in hour " + hour, x.weaver(0, 5), hour);
            x.pass(1);
        }
        Check.due("orderOf(0, 6) of the done one", x.orderOf(0, 6), NONE);
        Check.due("orderOf(0, 7) of the done one", x.orderOf(0, 7), NONE);
        // The most: 200 decimetres of 200.
        x.order(0, 200, 200, 5, 5);
        Check.due("rest of the greatest one", x.orderOf(0, 7), 4000);
    }

    private static void wideEnough() {
        WeaveShares x = new WeaveShares();
        x.order(0, 40, 5, 5, 0);
        x.order(0, 60, 5, 5, 1);
        x.order(0, 61, 5, 5, 2);
        x.order(0, 200, 5, 5, 3);
        int[][] want = {{0, 0, 0, 0}, {1, 0, 0, 0}, {2, 1, 0, 0}, {3, 2, 1, 0}, {4, 3, 2, 1}};
        int[] widths = {0, 40, 60, 61, 200};
        for (int i = 0; i < widths.length; i++) {
            x.loom(i, widths[i], 1, 0);
            for (int place = 0; place < 4; place++) {
                Check.due("orderOf(" + place + ", 8) with " + widths[i], x.orderOf(place, 8),
                        want[i][place]);
            }
        }
        x.loom(4, 0, 0, 0);
        Check.due("orderOf(3, 8) without the widest one", x.orderOf(3, 8), 0);
        Check.due("orderOf(0, 8) without the widest one", x.orderOf(0, 8), 3);
    }

    private static void placesOfWovenBy() {
        for (int orders = 0; orders <= 10; orders += 5) {
            WeaveShares x = new WeaveShares();
            for (int i = 0; i < orders; i++) {
                x.order(0, 50, 5, 5, 5);
            }
            for (int w = 0; w < 6; w++) {
                for (int place : new int[] {orders, orders + 1, 10, 11, 99, HIGH}) {
                    Check.due("wovenBy(" + place + ", " + w + ") with " + orders, x.wovenBy(place, w),
                            NONE);
                }
                if (orders > 0) {
                    Check.due("wovenBy of the last one", x.wovenBy(orders - 1, w), 0);
                }
            }
        }
        WeaveShares x = Made.full();
        x.cancel(x.orderOf(0, 0));
        Check.due("wovenBy(9, 3)", x.wovenBy(9, 3), NONE);
    }

    private static void wovenByRefused() {
        int[] below = {LOW, -10, -2, -1};
        Check.argumentEach("wovenBy(..., 0)", Made::busy, below, (x, place) -> x.wovenBy(place, 0));
        Check.argumentEach("wovenBy(..., 0)", WeaveShares::new, below, (x, place) -> x.wovenBy(place, 0));
        // Also where there is no order, a weaver must be one.
        Check.indexEach("wovenBy(99, ...)", Made::busy, Made.NO_WEAVER, (x, w) -> x.wovenBy(99, w));
        Check.indexEach("wovenBy(0, ...)", WeaveShares::new, Made.NO_WEAVER, (x, w) -> x.wovenBy(0, w));
    }

    private static void nextWhat() {
        Check.argumentEach("next(0, ...)", Made::busy, Made.outside(0, 1), (x, what) -> x.next(0, what));
        Check.argumentEach("next(1, ...)", WeaveShares::new, Made.outside(0, 1),
                (x, what) -> x.next(1, what));
    }

    private static void nextNumber() {
        WeaveShares x = new WeaveShares();
        Check.due("without a loom", x.next(3, 0), NONE);
        x.loom(3, 50, 1, 0);
        Check.due("without orders", x.next(3, 0), NONE);
        x.order(0, 51, 5, 5, 5);
        Check.due("without one that fits", x.next(3, 0), NONE);
        x.order(0, 50, 5, 5, 6);
        Check.due("with one that fits, without yarn", x.next(3, 0), 1);
        x.loom(3, 51, 1, 0);
        Check.due("with two that fit", x.next(3, 0), 0);
        x.cancel(0);
        x.cancel(1);
        Check.due("when both are gone", x.next(3, 0), NONE);
        x.order(0, 50, 5, 5, 6);
        Check.due("with a later one", x.next(3, 0), 2);
        x.loom(3, 0, 1, 0);
        Check.due("when the loom is gone", x.next(3, 0), NONE);
    }

    private static void nextReason() {
        WeaveShares x = new WeaveShares();
        x.order(0, 60, 5, 5, 5);
        x.yarn(3, 0, 99);
        Check.due("without a loom, though there is yarn", x.next(3, 1), 1);
        x.loom(3, 59, 1, 0);
        Check.due("with too narrow a loom, though there is yarn", x.next(3, 1), 2);
        x.loom(3, 60, 1, 0);
        Check.due("with yarn", x.next(3, 1), 0);
        x.yarn(3, 0, -94);
        Check.due("with a gram too little", x.next(3, 1), 3);
        x.yarn(3, 0, 1);
        Check.due("with just enough", x.next(3, 1), 0);
        x.yarn(3, 0, -6);
        Check.due("without any", x.next(3, 1), 3);
        x.store(0, 5);
        Check.due("with a gram too little in the store", x.next(3, 1), 3);
        x.store(0, 1);
        Check.due("with just enough in the store", x.next(3, 1), 0);
        x.set(1, 0);
        Check.due("when the store does not lend", x.next(3, 1), 3);
        x.cancel(0);
        Check.due("without orders", x.next(3, 1), 2);
        x.loom(3, 0, 1, 0);
        Check.due("without a loom or orders", x.next(3, 1), 1);
    }

    private static void nextNow() {
        WeaveShares x = new WeaveShares();
        x.loom(0, 50, 9, 0);
        x.loom(1, 50, 9, 0);
        x.store(0, 5);
        x.order(0, 50, 1, 5, 5);
        x.order(1, 50, 1, 5, 6);
        // 0 would end the order and use the yarn, but that is not looked at.
        Check.due("next(1, 0)", x.next(1, 0), 0);
        Check.due("next(1, 1)", x.next(1, 1), 0);
        Check.due("pass(1)", x.pass(1), 1);
        Check.due("woven by 1", x.weaver(1, 5), 0);
        Check.due("next(1, 0) then", x.next(1, 0), 1);
        Check.due("next(1, 1) then", x.next(1, 1), 3);
    }

    private static void countWhat() {
        Check.argumentEach("count", Made::busy, Made.outside(0, 11), WeaveShares::count);
        Check.argumentEach("count", WeaveShares::new, Made.outside(0, 11), WeaveShares::count);
        WeaveShares x = Made.at(9999);
        Check.due("count(0)", x.count(0), 9999);
        Check.due("count(11)", x.count(11), 6);
    }

    private static void countOrders() {
        WeaveShares x = Made.weaving(9, 0);
        Check.due("orders", x.count(1), 0);
        for (int i = 0; i < 10; i++) {
            x.order(0, 50, 1, 1, i);
        }
        Check.due("orders", x.count(1), 10);
        x.cancel(0);
        Check.due("orders behind a cancelled one", x.count(1), 9);
        Check.due("done behind a cancelled one", x.count(2), 0);
        for (int done = 1; done <= 9; done++) {
            x.pass(1);
            Check.due("orders", x.count(1), 9 - done);
            Check.due("done", x.count(2), done);
        }
    }

    private static void countLate() {
        for (int cost : new int[] {0, 1, 50}) {
            WeaveShares x = Made.weaving(1, 0);
            x.set(2, cost);
            x.order(0, 40, 1, 1, 0);
            x.order(0, 40, 1, 1, 0);
            x.order(0, 40, 1, 1, 1);
            x.order(0, 40, 1, 1, 3);
            x.order(0, 40, 1, 1, 3);
            int[] late = {0, 1, 2, 2, 3};
            for (int i = 0; i < late.length; i++) {
                x.pass(1);
                Check.due("late behind " + i + " hours, with a cost of " + cost, x.count(3), late[i]);
            }
            Check.due("done", x.count(2), 5);
        }
        // An order that is late, but neither done nor there any more, is not one of these.
        WeaveShares y = Made.at(99);
        y.order(0, 40, 1, 1, 0);
        y.pass(1);
        y.cancel(0);
        Check.due("late of none that is done", y.count(3), 0);
    }

    private static void countPaid() {
        WeaveShares x = new WeaveShares();
        x.loom(0, 50, 5, 0);
        x.store(0, 75);
        for (int i = 0; i < 3; i++) {
            x.order(0, 50, 5, 4 + i, 1);
        }
        // 20, 25 and, an hour late, 30 less 1; the debts take 20, 25 + 5 of it, and so on.
        int[] paid = {20, 45, 74};
        int[] debts = {5, 5, 1};
        for (int i = 0; i < 3; i++) {
            x.pass(1);
            Check.due("paid", x.count(4), paid[i]);
            Check.due("debt", x.count(8), debts[i]);
            Check.due("earned", x.weaver(0, 4), 0);
        }
    }

    private static void countWoven() {
        WeaveShares x = new WeaveShares();
        x.loom(0, 50, 2, 2);
        x.loom(5, 50, 3, 1);
        x.yarn(0, 0, 999);
        x.store(0, 999);
        x.order(0, 50, 2, 9, 9);
        x.pass(2);
        // 0 wove three with one fault, which ended the order; 5 wove three with faults alone.
        Check.due("woven", x.count(5), 3 + 3);
        Check.due("faults", x.count(6), 1 + 3);
        Check.due("used", x.count(7), 30);
        Check.due("debt", x.count(8), 15);
        Check.due("done", x.count(2), 1);
        // Also those of weavers whose looms are gone, and of orders that are.
        x.loom(0, 0, 0, 0);
        x.loom(5, 0, 0, 0);
        Check.due("woven", x.count(5), 6);
        Check.due("faults", x.count(6), 4);
        Check.due("used", x.count(7), 30);
        Check.due("debt", x.count(8), 15);
    }

    private static void countLooms() {
        WeaveShares x = new WeaveShares();
        for (int w = 0; w < 6; w++) {
            Check.due("looms", x.count(9), w);
            x.loom(w, 40 + 32 * w, 1, 0);
        }
        Check.due("looms", x.count(9), 6);
        x.loom(3, 40, 1, 0);
        Check.due("looms with another one", x.count(9), 6);
        for (int w = 0; w < 6; w++) {
            x.loom(w, 0, 1, 0);
            Check.due("looms", x.count(9), 5 - w);
        }
    }

    private static void countIdle() {
        WeaveShares x = new WeaveShares();
        x.pass(9);
        Check.due("hours of nothing without looms", x.count(10), 0);
        for (int w = 0; w < 6; w++) {
            x.loom(w, 50 + w, 1, 1);
        }
        x.pass(99);
        Check.due("hours of nothing of six", x.count(10), 594);
        // One has too narrow a loom, one no yarn; faults are not nothing.
        x.order(0, 51, 200, 1, 0);
        for (int w = 0; w < 5; w++) {
            x.yarn(w, 0, 99);
        }
        x.pass(1);
        Check.due("hours of nothing of two more", x.count(10), 596);
        x.cancel(0);
        x.order(0, 50, 1, 1, 0);
        x.loom(0, 50, 1, 0);
        x.pass(1);
        // 0 ends it, and the others find none.
        Check.due("hours of nothing of five more", x.count(10), 601);
    }

    private static void countSaved() {
        WeaveShares x = new WeaveShares();
        for (int i = 0; i < 9; i++) {
            Check.due("saved states", x.count(11), Math.min(i, 6));
            x.set(0, 0);
        }
        for (int i = 6; i > 0; i--) {
            Check.due("saved states", x.count(11), i);
            x.undo();
        }
        Check.due("saved states", x.count(11), 0);
    }
}
