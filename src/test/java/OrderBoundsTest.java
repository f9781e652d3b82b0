/** Sentences with bounds: "Orders", and promises 6 and 7. */
public final class OrderBoundsTest {
    private OrderBoundsTest() {
    }

    public static void main(String[] args) {
        Check.sentence("There are at most 10 orders.", OrderBoundsTest::tenOrders);
        Check.sentence("order: if there are 10 orders", OrderBoundsTest::eleventhRefused);
        Check.sentence("the orders are numbered from 0 in the order in which they came, also those"
                + " that are gone", OrderBoundsTest::numbers);
        Check.sentence("order: `width`: 40 to 200", OrderBoundsTest::widths);
        Check.sentence("`length`: 1 to 200", OrderBoundsTest::lengths);
        Check.sentence("`price`: 1 to 99", OrderBoundsTest::prices);
        Check.sentence("`due`: 0 to 9999", OrderBoundsTest::dueHours);
        Check.sentence("if another argument is out of range", OrderBoundsTest::allWrong);
        Check.sentence("for each weaver the good decimetres that were woven so far",
                OrderBoundsTest::newOrdersAreUnwoven);
        Check.sentence("It is done when the good ones of all weavers together are its length.",
                OrderBoundsTest::doneAtItsLength);
        Check.sentence("It is done when the good ones of all weavers together are its length.",
                OrderBoundsTest::doneTogether);
        Check.sentence("It is done when the good ones of all weavers together are its length.",
                OrderBoundsTest::faultsDoNotEndIt);
        Check.sentence("Orders have an order: by due hours, of several by numbers.",
                OrderBoundsTest::byDueHours);
        Check.sentence("Orders have an order: by due hours, of several by numbers.",
                OrderBoundsTest::orderStaysWhenOneGoes);
        Check.sentence("A decimetre of an order takes its width divided by 10, rounded up",
                OrderBoundsTest::gramsOfADecimetre);
        Check.sentence("cancel: if there is no such order", OrderBoundsTest::noSuchOrder);
        Check.sentence("Returns how many good decimetres it had.", OrderBoundsTest::cancelAnswers);
        Check.sentence("it is gone, and nobody is paid", OrderBoundsTest::cancelPaysNobody);
        Check.end("OrderBoundsTest");
    }

    private static WeaveShares orders(int count) {
        WeaveShares x = new WeaveShares();
        for (int i = 0; i < count; i++) {
            x.order(0, 50, 5, 5, 5);
        }
        return x;
    }

    private static void tenOrders() {
        WeaveShares x = new WeaveShares();
        for (int i = 0; i < 10; i++) {
            Check.due("orders", x.count(1), i);
            Check.due("orderOf(" + i + ", 0) before it came", x.orderOf(i, 0), WeaveShares.NONE);
            Check.due("order " + i, x.order(3, 200, 200, 99, 9999), i);
            Check.due("orderOf(" + i + ", 0)", x.orderOf(i, 0), i);
        }
        Check.due("orders", x.count(1), 10);
        Check.due("orderOf(10, 0)", x.orderOf(10, 0), WeaveShares.NONE);
        // One that is cancelled or done leaves its place to another one.
        Check.due("cancel(9)", x.cancel(9), 0);
        Check.due("order behind the cancelled one", x.order(0, 40, 1, 1, 0), 10);
        x.loom(0, 40, 1, 0);
        x.yarn(0, 0, 4);
        Check.due("pass(1)", x.pass(1), 1);
        Check.due("order behind the done one", x.order(0, 40, 1, 1, 0), 11);
        Check.due("orders", x.count(1), 10);
    }

    private static void eleventhRefused() {
        Check.due("the tenth", orders(9).order(0, 40, 1, 1, 0), 9);
        Check.refusesState("the eleventh", () -> orders(10), x -> x.order(0, 40, 1, 1, 0));
        Check.refusesState("the eleventh", Made::full, x -> x.order(3, 200, 200, 99, 9999));
        Check.refusesState("the eleventh, when one had gone", () -> {
            WeaveShares x = orders(10);
            x.cancel(0);
            x.order(0, 50, 5, 5, 5);
            return x;
        }, x -> x.order(0, 40, 1, 1, 0));
    }

    private static void numbers() {
        WeaveShares x = orders(3);
        x.cancel(2);
        Check.due("behind a cancelled one", x.order(0, 40, 1, 1, 0), 3);
        Check.append(x, "1x40c0;1x40c0");
        x.takeAll();
        Check.due("behind two of a text", x.order(0, 40, 1, 1, 0), 6);
        x.loom(0, 200, 9, 0);
        x.yarn(0, 0, 999);
        Check.due("pass(99)", x.pass(99), 6);
        Check.due("behind done ones", x.order(0, 40, 1, 1, 0), 7);
        Check.due("order 7 stands alone", x.orderOf(0, 0), 7);
        x.cancel(7);
        Check.due("without any orders", x.order(0, 40, 1, 1, 0), 8);
    }

    private static void widths() {
        for (int width : new int[] {40, 200}) {
            WeaveShares x = new WeaveShares();
            Check.due("order of width " + width, x.order(1, width, 5, 5, 5), 0);
            Check.due("its width", x.orderOf(0, 2), width);
        }
        Check.argumentEach("order of width", Made::busy, Made.outside(40, 200),
                (x, width) -> x.order(1, width, 5, 5, 5));
        // Unlike a loom's, an order's width is not 0.
        Check.argumentEach("order of width", Made::busy, new int[] {-1, 0, 1},
                (x, width) -> x.order(1, width, 5, 5, 5));
    }

    private static void lengths() {
        for (int length : new int[] {1, 200}) {
            WeaveShares x = new WeaveShares();
            Check.due("order of length " + length, x.order(1, 50, length, 5, 5), 0);
            Check.due("its length", x.orderOf(0, 3), length);
            Check.due("what it takes", x.orderOf(0, 7), 5 * length);
        }
        Check.argumentEach("order of length", Made::busy, Made.outside(1, 200),
                (x, length) -> x.order(1, 50, length, 5, 5));
    }

    private static void prices() {
        for (int price : new int[] {1, 99}) {
            WeaveShares x = Made.weaving(9, 0);
            Check.due("order of price " + price, x.order(0, 50, 2, price, 5), 0);
            Check.due("its price", x.orderOf(0, 4), price);
            x.pass(1);
            Check.due("paid for two", x.count(4), 2 * price);
        }
        Check.argumentEach("order of price", Made::busy, Made.outside(1, 99),
                (x, price) -> x.order(1, 50, 5, price, 5));
    }

    private static void dueHours() {
        for (int due : new int[] {0, 9999}) {
            WeaveShares x = new WeaveShares();
            Check.due("order due " + due, x.order(1, 50, 5, 5, due), 0);
            Check.due("its due hour", x.orderOf(0, 5), due);
        }
        Check.argumentEach("order due", Made::busy, Made.outside(0, 9999),
                (x, due) -> x.order(1, 50, 5, 5, due));
        // A due hour may have gone before.
        WeaveShares late = Made.at(200);
        Check.due("order due 0 at 200", late.order(1, 50, 5, 5, 0), 0);
    }

    private static void allWrong() {
        Check.refusesArgument("order(0, 39, 0, 0, -1)", Made::busy, x -> x.order(0, 39, 0, 0, -1));
        Check.refusesArgument("order(3, 201, 201, 100, 10000)", Made::busy,
                x -> x.order(3, 201, 201, 100, 10000));
    }

    private static void newOrdersAreUnwoven() {
        WeaveShares x = Made.full();
        for (int i = 0; i < 10; i++) {
            x.cancel(i);
        }
        for (int i = 0; i < 10; i++) {
            x.order(1, 50 + i, 20, 5, 10 - i);
        }
        for (int place = 0; place < 10; place++) {
            Check.due("orderOf(" + place + ", 6)", x.orderOf(place, 6), 0);
            Check.due("orderOf(" + place + ", 7)", x.orderOf(place, 7), place == 9 ? 100 : 120);
            for (int w = 0; w < 6; w++) {
                Check.due("wovenBy(" + place + ", " + w + ")", x.wovenBy(place, w), 0);
            }
        }
    }

    private static void doneAtItsLength() {
        for (int length : new int[] {1, 2, 3, 99, 199, 200}) {
            WeaveShares x = Made.weaving(1, 0);
            x.order(0, 40, length, 1, 9999);
            for (int left = length - 1; left > 0; left -= Math.min(left, 99)) {
                Check.due("pass of a length of " + length, x.pass(Math.min(left, 99)), 0);
            }
            Check.due("good an hour before the end", x.orderOf(0, 6), length - 1);
            Check.due("rest an hour before the end", x.orderOf(0, 7), 4);
            Check.due("done an hour before the end", x.count(2), 0);
            Check.due("pass(1) of the last one of " + length, x.pass(1), 1);
            Check.due("done", x.count(2), 1);
            Check.due("orders", x.count(1), 0);
            Check.due("orderOf(0, 0)", x.orderOf(0, 0), WeaveShares.NONE);
        }
    }

    private static void doneTogether() {
        for (int length = 5; length <= 7; length++) {
            WeaveShares x = new WeaveShares();
            for (int w = 0; w < 6; w++) {
                x.loom(w, 50, 1, 0);
                x.yarn(w, 0, 99);
            }
            x.order(0, 50, length, 6, 9);
            Check.due("pass(1) of six for " + length, x.pass(1), length < 7 ? 1 : 0);
            Check.due("woven of " + length, x.count(5), Math.min(length, 6));
        }
    }

    private static void faultsDoNotEndIt() {
        WeaveShares x = Made.weaving(1, 2);
        x.order(0, 50, 2, 6, 9);
        Check.due("pass(2): one good, one fault", x.pass(2), 0);
        Check.due("good", x.orderOf(0, 6), 1);
        Check.due("rest without faults", x.orderOf(0, 7), 5);
        Check.due("pass(1)", x.pass(1), 1);
        WeaveShares y = Made.weaving(9, 1);
        y.order(0, 50, 1, 6, 9);
        Check.due("pass(99), with faults alone", y.pass(99), 0);
        Check.due("good", y.orderOf(0, 6), 0);
        Check.due("faults", y.count(6), 891);
    }

    private static void places(WeaveShares x, int... numbers) {
        for (int place = 0; place < numbers.length; place++) {
            Check.due("number at " + place, x.orderOf(place, 0), numbers[place]);
        }
        Check.due("number behind them", x.orderOf(numbers.length, 0), WeaveShares.NONE);
    }

    private static void byDueHours() {
        WeaveShares x = new WeaveShares();
        int[] dues = {9999, 0, 5, 9999, 5, 0, 4, 6, 5, 0};
        for (int due : dues) {
            x.order(0, 50, 5, 5, due);
        }
        places(x, 1, 5, 9, 6, 2, 4, 8, 7, 0, 3);
        WeaveShares y = Made.buffered("1x40c0;1x40c0@0;1x40c0@5;1x40c0@9999;1x40c0@5;1x40c0@0");
        Check.due("takeAll()", y.takeAll(), 6);
        places(y, 1, 5, 2, 4, 0, 3);
    }

    private static void orderStaysWhenOneGoes() {
        WeaveShares x = new WeaveShares();
        for (int due : new int[] {7, 3, 5, 3, 7, 5}) {
            x.order(0, 50, 5, 5, due);
        }
        places(x, 1, 3, 2, 5, 0, 4);
        x.cancel(2);
        places(x, 1, 3, 5, 0, 4);
        x.cancel(1);
        places(x, 3, 5, 0, 4);
        x.cancel(4);
        places(x, 3, 5, 0);
        // A number that comes later stands behind those of the same due hour.
        x.order(0, 50, 5, 5, 3);
        x.order(0, 50, 5, 5, 5);
        places(x, 3, 6, 5, 7, 0);
        x.undo();
        x.undo();
        x.undo();
        places(x, 3, 5, 0, 4);
        x.loom(0, 50, 5, 0);
        x.store(0, 999);
        Check.due("pass(1)", x.pass(1), 1);
        places(x, 5, 0, 4);
    }

    private static void gramsOfADecimetre() {
        int[][] grams = {{40, 4}, {41, 5}, {49, 5}, {50, 5}, {51, 6}, {99, 10}, {100, 10},
            {101, 11}, {109, 11}, {110, 11}, {190, 19}, {191, 20}, {199, 20}, {200, 20}};
        for (int[] one : grams) {
            WeaveShares x = new WeaveShares();
            x.loom(0, 200, 1, 0);
            x.order(2, one[0], 1, 5, 5);
            Check.due("what a width of " + one[0] + " takes", x.orderOf(0, 7), one[1]);
            x.yarn(0, 2, one[1] - 1);
            Check.due("with a gram less", x.next(0, 1), 3);
            Check.due("pass(1) with a gram less", x.pass(1), 0);
            x.yarn(0, 2, 1);
            Check.due("with just enough", x.next(0, 1), 0);
            Check.due("pass(1) with just enough", x.pass(1), 1);
            Check.due("what is left", x.share(0, 2), 0);
            Check.due("used", x.count(7), one[1]);
        }
    }

    private static void noSuchOrder() {
        Check.indexEach("cancel, without orders,", WeaveShares::new,
                new int[] {Integer.MIN_VALUE, -1, 0, 1, Integer.MAX_VALUE}, WeaveShares::cancel);
        Check.indexEach("cancel, with three orders,", Made::busy,
                new int[] {Integer.MIN_VALUE, -1, 3, 10, Integer.MAX_VALUE}, WeaveShares::cancel);
        Check.indexEach("cancel, with ten orders,", Made::full,
                new int[] {Integer.MIN_VALUE, -1, 10, 11, Integer.MAX_VALUE}, WeaveShares::cancel);
        // Order 1 was cancelled, and order 0 is done.
        Check.indexEach("cancel of those gone,", LookTest::paid, new int[] {0, 1, 3},
                WeaveShares::cancel);
        WeaveShares x = LookTest.paid();
        Check.due("cancel(2)", x.cancel(2), 0);
        Check.index("cancel(2) again", x, () -> x.cancel(2));
    }

    private static void cancelAnswers() {
        WeaveShares x = new WeaveShares();
        x.loom(0, 100, 4, 3);
        x.loom(5, 100, 2, 0);
        x.store(0, 9999);
        x.order(0, 50, 200, 5, 5);
        x.order(0, 50, 200, 5, 6);
        x.pass(3);
        // Of twelve by 0 four have faults, and 5 wove six.
        Check.due("cancel(0)", x.cancel(0), 14);
        Check.due("cancel(1), of which nothing is woven", x.cancel(1), 0);
        Check.due("orders", x.count(1), 0);
        Check.due("woven so far", x.count(5), 18);
        Check.due("faults so far", x.count(6), 4);
        Check.due("used so far", x.count(7), 90);
        // All but the last one of 200.
        WeaveShares y = Made.weaving(1, 0);
        y.order(0, 40, 200, 1, 0);
        y.pass(99);
        y.pass(99);
        y.pass(1);
        Check.due("cancel(0) of 199", y.cancel(0), 199);
    }

    private static void cancelPaysNobody() {
        for (int cost : new int[] {0, 1, 9}) {
            WeaveShares x = new WeaveShares();
            x.set(3, cost);
            x.loom(0, 100, 4, 0);
            x.store(0, 100);
            x.order(0, 50, 5, 99, 5);
            x.pass(1);
            Check.due("cancel(0)", x.cancel(0), 4);
            Check.due("done", x.count(2), 0);
            Check.due("late", x.count(3), 0);
            Check.due("paid", x.count(4), 0);
            Check.due("earned", x.weaver(0, 4), 0);
            Check.due("debt, with a cost of " + cost, x.weaver(0, 3), 20);
            Check.due("the store", x.share(WeaveShares.NONE, 0), 80);
            Check.due("hours", x.count(0), 1);
        }
    }
}
