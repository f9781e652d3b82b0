/** Promises 6 to 9: order, cancel, set, pass, and what an hour is. */
public final class OrderTest {
    private OrderTest() {
    }

    public static void main(String[] args) {
        order();
        orderRefused();
        cancel();
        set();
        passRefused();
        ownYarn();
        lentYarn();
        noYarn();
        faults();
        rules();
        oneOrderAnHour();
        turns();
        late();
        lateBeyondAnInt();
        split();
        debts();
        debtsForNothing();
        passUndone();
        Check.end("OrderTest");
    }

    private static void order() {
        WeaveShares x = new WeaveShares();
        Check.undoable("order(0, 40, 1, 1, 0)", x, () -> x.order(0, 40, 1, 1, 0), 0);
        Check.undoable("order(3, 200, 200, 99, 9999)", x, () -> x.order(3, 200, 200, 99, 9999), 1);
        Check.due("order(1, 100, 50, 7, 9)", x.order(1, 100, 50, 7, 9), 2);
        Check.due("order(1, 100, 50, 7, 0)", x.order(1, 100, 50, 7, 0), 3);
        Check.due("order(2, 100, 50, 7, 9)", x.order(2, 100, 50, 7, 9), 4);
        int[] numbers = {0, 3, 2, 4, 1};
        for (int i = 0; i < numbers.length; i++) {
            Check.due("number at " + i, x.orderOf(i, 0), numbers[i]);
        }
        int[] last = {1, 3, 200, 200, 99, 9999, 0, 4000, 0};
        for (int i = 0; i < last.length; i++) {
            Check.due("orderOf(4, " + i + ")", x.orderOf(4, i), last[i]);
        }
        for (int i = 5; i < 10; i++) {
            Check.due("order " + i, x.order(0, 40, 1, 1, 5), i);
        }
        Check.state("the eleventh order", x, () -> x.order(0, 40, 1, 1, 0));
        Check.argument("the eleventh order, wrong", x, () -> x.order(0, 39, 1, 1, 0));
        Check.index("the eleventh order, no colour", x, () -> x.order(4, 39, 1, 1, 0));
        x.cancel(7);
        Check.due("order behind a cancelled one", x.order(0, 40, 1, 1, 0), 10);
        int[] then = {0, 3, 10, 5, 6, 8, 9, 2, 4, 1};
        for (int i = 0; i < then.length; i++) {
            Check.due("number then at " + i, x.orderOf(i, 0), then[i]);
        }
        Check.state("again an eleventh order", x, () -> x.order(0, 40, 1, 1, 0));
    }

    private static void orderRefused() {
        WeaveShares x = new WeaveShares();
        x.order(0, 50, 5, 5, 5);
        int[] wide = {Integer.MIN_VALUE, -1, 0, 39, 201, Integer.MAX_VALUE};
        int[] zeroOr201 = {Integer.MIN_VALUE, -1, 0, 201, Integer.MAX_VALUE};
        int[] zeroOr100 = {Integer.MIN_VALUE, -1, 0, 100, Integer.MAX_VALUE};
        int[] dues = {Integer.MIN_VALUE, -1, 10000, Integer.MAX_VALUE};
        for (int v : wide) {
            Check.argument("order width " + v, x, () -> x.order(0, v, 5, 5, 5));
        }
        for (int v : zeroOr201) {
            Check.argument("order length " + v, x, () -> x.order(0, 50, v, 5, 5));
        }
        for (int v : zeroOr100) {
            Check.argument("order price " + v, x, () -> x.order(0, 50, 5, v, 5));
        }
        for (int v : dues) {
            Check.argument("order due " + v, x, () -> x.order(0, 50, 5, 5, v));
        }
        int[] colours = {Integer.MIN_VALUE, -1, 4, Integer.MAX_VALUE};
        for (int c : colours) {
            Check.index("order colour " + c, x, () -> x.order(c, 50, 5, 5, 5));
            Check.index("order colour " + c + ", all wrong", x, () -> x.order(c, 0, 0, 0, -1));
        }
    }

    private static void cancel() {
        WeaveShares x = new WeaveShares();
        x.loom(0, 100, 4, 0);
        x.loom(2, 100, 3, 2);
        x.store(0, 1000);
        x.order(0, 50, 20, 5, 5);
        x.order(0, 50, 20, 5, 4);
        x.pass(1);
        Check.due("cancel(1)", x.cancel(1), 6);
        Check.due("orders", x.count(1), 1);
        Check.due("orders done", x.count(2), 0);
        Check.due("paid", x.count(4), 0);
        Check.due("earned", x.weaver(0, 4), 0);
        Check.due("debt", x.weaver(0, 3), 20);
        Check.due("first", x.orderOf(0, 0), 0);
        Check.due("second", x.orderOf(1, 0), -1);
        int[] gone = {1, 2, -1, Integer.MIN_VALUE, Integer.MAX_VALUE};
        for (int number : gone) {
            Check.index("cancel(" + number + ")", x, () -> x.cancel(number));
        }
        Check.due("cancel(0)", x.cancel(0), 0);
        Check.index("cancel(0) again", x, () -> x.cancel(0));
        // Nothing is woven of a new order, wherever it is kept.
        for (int i = 0; i < 10; i++) {
            x.order(0, 50, 20, 5, i);
        }
        for (int i = 0; i < 10; i++) {
            Check.due("good at " + i, x.orderOf(i, 6), 0);
            Check.due("wovenBy(" + i + ", 0)", x.wovenBy(i, 0), 0);
            Check.due("wovenBy(" + i + ", 2)", x.wovenBy(i, 2), 0);
        }
    }

    private static void set() {
        int[] first = {0, 1, 5, 1};
        int[] most = {2, 1, 50, 9};
        for (int i = 0; i < 4; i++) {
            int setting = i;
            WeaveShares x = new WeaveShares();
            Check.undoable("set(" + i + ", most)", x, () -> x.set(setting, most[setting]), first[i]);
            Check.due("setting(" + i + ")", x.setting(i), most[i]);
            Check.due("set(" + i + ", 0)", x.set(i, 0), most[i]);
            Check.undoable("set(" + i + ", 0) again", x, () -> x.set(setting, 0), 0);
            for (int k = 0; k < 4; k++) {
                Check.due("setting(" + k + ")", x.setting(k), k == i ? 0 : first[k]);
            }
            int[] wrong = {Integer.MIN_VALUE, -1, most[i] + 1, Integer.MAX_VALUE};
            for (int value : wrong) {
                Check.argument("set(" + i + ", " + value + ")", x, () -> x.set(setting, value));
            }
        }
        int[] none = {Integer.MIN_VALUE, -1, 4, Integer.MAX_VALUE};
        WeaveShares x = new WeaveShares();
        for (int setting : none) {
            Check.index("set(" + setting + ", 0)", x, () -> x.set(setting, 0));
            Check.index("set(" + setting + ", -1)", x, () -> x.set(setting, -1));
        }
    }

    private static void passRefused() {
        WeaveShares x = new WeaveShares();
        int[] wrong = {Integer.MIN_VALUE, -1, 0, 100, Integer.MAX_VALUE};
        for (int hours : wrong) {
            Check.argument("pass(" + hours + ")", x, () -> x.pass(hours));
        }
        for (int i = 0; i < 100; i++) {
            Check.due("pass(99)", x.pass(99), 0);
        }
        Check.due("pass(98)", x.pass(98), 0);
        Check.due("hours", x.count(0), 9998);
        Check.state("pass(2) at 9998", x, () -> x.pass(2));
        Check.state("pass(99) at 9998", x, () -> x.pass(99));
        Check.due("pass(1)", x.pass(1), 0);
        Check.due("hours", x.count(0), 9999);
        Check.state("pass(1) at 9999", x, () -> x.pass(1));
        Check.argument("pass(0) at 9999", x, () -> x.pass(0));
        Check.argument("pass(100) at 9999", x, () -> x.pass(100));
        // What would be is told beyond the limit too.
        x.loom(0, 200, 9, 0);
        x.store(0, 9999);
        x.order(0, 40, 20, 1, 9999);
        Check.due("doneIn at 9999", x.doneIn(0), 3);
        Check.due("ifPassed(3, 4) at 9999", x.ifPassed(3, 4), 1);
    }

    private static void ownYarn() {
        WeaveShares x = new WeaveShares();
        x.loom(0, 41, 3, 0);
        x.yarn(0, 0, 26);
        x.order(0, 41, 5, 10, 0);
        Check.due("pass(1)", x.pass(1), 0);
        Check.due("share", x.share(0, 0), 11);
        Check.due("good", x.orderOf(0, 6), 3);
        Check.due("rest", x.orderOf(0, 7), 10);
        Check.due("used", x.count(7), 15);
        Check.due("pass(1)", x.pass(1), 1);
        Check.due("share", x.share(0, 0), 1);
        Check.due("used", x.count(7), 25);
        Check.due("woven", x.weaver(0, 5), 5);
        Check.due("earned, an hour late", x.weaver(0, 4), 48);
        Check.due("paid", x.count(4), 48);
        Check.due("orders", x.count(1), 0);
        Check.due("done", x.count(2), 1);
        Check.due("late", x.count(3), 1);
        Check.due("hours", x.count(0), 2);
        Check.due("idle", x.count(10), 0);
        Check.due("pass(3)", x.pass(3), 0);
        Check.due("idle without an order", x.count(10), 3);
    }

    private static void lentYarn() {
        WeaveShares x = new WeaveShares();
        x.loom(0, 100, 3, 0);
        x.yarn(0, 1, 9);
        x.store(1, 12);
        x.order(1, 50, 5, 10, 9);
        x.pass(1);
        // One from the share, two from the store; four grams are too few for a decimetre.
        Check.due("share", x.share(0, 1), 4);
        Check.due("store", x.share(-1, 1), 2);
        Check.due("debt", x.weaver(0, 3), 10);
        Check.due("borrowed", x.weaver(0, 7), 10);
        Check.due("used", x.count(7), 15);
        Check.due("hindrance", x.next(0, 1), 3);
        x.pass(1);
        Check.due("good", x.orderOf(0, 6), 3);
        Check.due("idle", x.count(10), 1);
        x.store(1, 3);
        Check.due("no hindrance", x.next(0, 1), 0);
        Check.due("pass(1)", x.pass(1), 0);
        Check.due("good", x.orderOf(0, 6), 4);
        Check.due("idle though it could not go on", x.count(10), 1);
        x.yarn(0, 1, 1);
        Check.due("pass(1)", x.pass(1), 1);
        Check.due("debt paid", x.weaver(0, 3), 0);
        Check.due("earned", x.weaver(0, 4), 35);
        Check.due("borrowed so far", x.weaver(0, 7), 15);
        Check.due("debts are paid in money", x.share(-1, 1), 0);
    }

    private static void noYarn() {
        WeaveShares x = new WeaveShares();
        x.loom(0, 100, 3, 0);
        x.loom(1, 100, 3, 0);
        x.set(1, 0);
        x.yarn(1, 0, 10);
        x.store(0, 100);
        x.store(1, 100);
        x.order(0, 50, 9, 10, 1);
        x.order(1, 50, 9, 10, 2);
        x.pass(1);
        Check.due("nothing is lent", x.weaver(0, 5), 0);
        Check.due("own yarn", x.weaver(1, 5), 2);
        Check.due("no other order is chosen", x.orderOf(1, 6), 0);
        Check.due("idle", x.count(10), 1);
        x.yarn(0, 1, 100);
        x.pass(1);
        Check.due("no other order is chosen", x.orderOf(1, 6), 0);
        Check.due("idle", x.count(10), 3);
    }

    private static void faults() {
        WeaveShares x = new WeaveShares();
        x.loom(0, 100, 5, 3);
        x.yarn(0, 0, 1000);
        x.order(0, 50, 5, 10, 9);
        x.pass(1);
        Check.due("good", x.orderOf(0, 6), 4);
        Check.due("faults", x.weaver(0, 6), 1);
        Check.due("woven", x.weaver(0, 5), 5);
        Check.due("used", x.count(7), 25);
        // The sixth is a fault, the seventh is good.
        Check.due("pass(1)", x.pass(1), 1);
        Check.due("woven", x.count(5), 7);
        Check.due("faults", x.count(6), 2);
        Check.due("used", x.count(7), 35);
        // The decimetres go on being counted with another loom: the eighth is a fault.
        x.loom(0, 100, 1, 4);
        x.order(0, 50, 5, 10, 9);
        x.pass(1);
        Check.due("faults", x.weaver(0, 6), 3);
        x.loom(0, 100, 9, 0);
        x.pass(1);
        Check.due("faults without care", x.weaver(0, 6), 3);
        x.loom(0, 100, 9, 1);
        x.order(0, 50, 5, 10, 9);
        x.pass(2);
        Check.due("with a care of 1 all is lost", x.weaver(0, 6), 21);
        Check.due("good", x.orderOf(0, 6), 0);
        Check.due("a loom that weaves faults is not idle", x.count(10), 0);
    }

    private static void rules() {
        WeaveShares x = new WeaveShares();
        x.loom(0, 100, 1, 0);
        x.loom(1, 120, 1, 0);
        x.loom(2, 59, 1, 0);
        for (int c = 0; c < 4; c++) {
            x.store(c, 1000);
        }
        x.order(0, 60, 50, 5, 9);
        x.order(1, 100, 50, 5, 8);
        x.order(2, 101, 50, 7, 7);
        x.order(3, 100, 50, 8, 8);
        x.order(0, 60, 50, 8, 9);
        int[][] chosen = {{1, 2}, {1, 2}, {3, 3}};
        for (int rule = 0; rule < 3; rule++) {
            x.set(0, rule);
            Check.due("rule " + rule + ", loom 100", x.next(0, 0), chosen[rule][0]);
            Check.due("rule " + rule + ", loom 120", x.next(1, 0), chosen[rule][1]);
            Check.due("rule " + rule + ", loom 59", x.next(2, 0), -1);
        }
        x.set(0, 0);
        x.pass(1);
        x.set(0, 1);
        x.pass(1);
        x.set(0, 2);
        x.pass(1);
        Check.due("2, by weaver 1", x.wovenBy(0, 1), 2);
        Check.due("1, by weaver 0", x.wovenBy(1, 0), 2);
        Check.due("3, by weaver 0", x.wovenBy(2, 0), 1);
        Check.due("3, by weaver 1", x.wovenBy(2, 1), 1);
        Check.due("the narrow loom stands still", x.count(10), 3);
        x.set(0, 1);
        x.cancel(2);
        x.cancel(1);
        x.cancel(3);
        Check.due("of several the first one, by width", x.next(1, 0), 0);
        x.order(0, 60, 50, 8, 8);
        x.set(0, 2);
        Check.due("of several the first one, by price", x.next(1, 0), 5);
    }

    private static void oneOrderAnHour() {
        WeaveShares x = new WeaveShares();
        x.loom(1, 100, 9, 0);
        x.store(0, 1000);
        x.order(0, 50, 2, 5, 0);
        x.order(0, 50, 3, 5, 0);
        x.order(0, 50, 2, 5, 1);
        Check.due("pass(1)", x.pass(1), 1);
        Check.due("only what the order took is woven", x.count(5), 2);
        Check.due("pass(2)", x.pass(2), 2);
        Check.due("woven", x.count(5), 7);
        Check.due("two are late by an hour", x.count(3), 2);
    }

    private static void turns() {
        WeaveShares x = new WeaveShares();
        x.loom(5, 100, 2, 0);
        x.loom(3, 100, 4, 0);
        x.loom(4, 100, 3, 0);
        x.store(0, 1000);
        x.order(0, 50, 5, 8, 9);
        x.order(0, 50, 5, 10, 9);
        Check.due("pass(1)", x.pass(1), 1);
        // 3 weaves four, 4 the last one, and 5 begins the next order.
        Check.due("due of 3, less the debt", x.weaver(3, 4), 12);
        Check.due("due of 4, less the debt", x.weaver(4, 4), 3);
        Check.due("5 wove the next one", x.wovenBy(0, 5), 2);
        Check.due("5 owes for it", x.weaver(5, 3), 10);
        Check.due("3 owes nothing", x.weaver(3, 3), 0);
    }

    private static void late() {
        int[] costs = {0, 1, 5, 33, 34, 50};
        int[] pays = {99, 97, 85, 1, 0, 0};
        for (int i = 0; i < costs.length; i++) {
            WeaveShares x = new WeaveShares();
            x.set(2, costs[i]);
            x.loom(0, 100, 9, 0);
            x.yarn(0, 0, 100);
            x.pass(10);
            x.order(0, 50, 9, 11, 7);
            x.pass(1);
            // Three hours late: 99 * 3 * the cost, divided by 100, rounded down.
            Check.due("paid with cost " + costs[i], x.count(4), pays[i]);
            Check.due("late with cost " + costs[i], x.count(3), 1);
        }
        WeaveShares y = new WeaveShares();
        y.loom(0, 100, 9, 0);
        y.yarn(0, 0, 100);
        y.pass(10);
        y.order(0, 50, 9, 11, 10);
        y.pass(1);
        Check.due("just in time is paid in full", y.count(4), 99);
        Check.due("just in time is not late", y.count(3), 0);
    }

    private static void lateBeyondAnInt() {
        WeaveShares x = new WeaveShares();
        x.set(2, 50);
        for (int i = 0; i < 23; i++) {
            x.pass(99);
        }
        x.yarn(0, 0, 9999);
        x.loom(0, 100, 9, 0);
        x.order(0, 40, 200, 99, 0);
        Check.due("pass(23)", x.pass(23), 1);
        // 19800 * 2299 * 50 would be below 0 as an int.
        Check.due("paid", x.count(4), 0);
        Check.due("late", x.count(3), 1);
        Check.due("earned", x.weaver(0, 4), 0);
    }

    private static void split() {
        // 60 for 2, 3 and 2 of 7: what is left over goes to the one with most.
        WeaveShares x = splitBy(2, 3, 2);
        x.order(0, 50, 7, 9, 0);
        Check.due("pass(1)", x.pass(1), 1);
        Check.due("paid", x.count(4), 60);
        Check.due("0", x.weaver(0, 4), 17);
        Check.due("1", x.weaver(1, 4), 26);
        Check.due("2", x.weaver(2, 4), 17);
        // 34 for 1, 2 and 2 of 5: of several with most, it goes to the lowest.
        WeaveShares y = splitBy(1, 2, 2);
        y.order(0, 50, 5, 7, 0);
        Check.due("pass(1)", y.pass(1), 1);
        Check.due("paid", y.count(4), 34);
        Check.due("0", y.weaver(0, 4), 6);
        Check.due("1", y.weaver(1, 4), 15);
        Check.due("2", y.weaver(2, 4), 13);
        Check.due("evenness", y.evenness(), 6.0 / 15.0);
        // 34 for 2, 2 and 1 of 5.
        WeaveShares z = splitBy(2, 2, 1);
        z.order(0, 50, 5, 7, 0);
        Check.due("pass(1)", z.pass(1), 1);
        Check.due("0", z.weaver(0, 4), 15);
        Check.due("1", z.weaver(1, 4), 13);
        Check.due("2", z.weaver(2, 4), 6);
    }

    private static WeaveShares splitBy(int first, int second, int third) {
        WeaveShares x = new WeaveShares();
        x.loom(0, 100, first, 0);
        x.loom(1, 100, second, 0);
        x.loom(2, 100, third, 0);
        for (int w = 0; w < 3; w++) {
            x.yarn(w, 0, 100);
        }
        x.pass(1);
        return x;
    }

    private static void debts() {
        int[] costs = {1, 2, 3, 7, 9};
        int[] left = {5, 15, 19, 23, 23};
        int[] earned = {0, 0, 2, 6, 2};
        for (int i = 0; i < costs.length; i++) {
            WeaveShares x = new WeaveShares();
            x.set(3, costs[i]);
            x.loom(0, 100, 5, 0);
            x.store(0, 100);
            x.order(0, 50, 5, 4, 9);
            Check.due("pass(1)", x.pass(1), 1);
            Check.due("debt with " + costs[i], x.weaver(0, 3), left[i]);
            Check.due("earned with " + costs[i], x.weaver(0, 4), earned[i]);
            Check.due("paid with " + costs[i], x.count(4), 20);
            Check.due("borrowed with " + costs[i], x.weaver(0, 7), 25);
            Check.due("debt of all with " + costs[i], x.count(8), left[i]);
        }
    }

    private static void debtsForNothing() {
        for (int cost = 0; cost < 2; cost++) {
            WeaveShares x = new WeaveShares();
            x.loom(3, 100, 5, 0);
            x.store(0, 30);
            x.order(0, 50, 50, 4, 9);
            x.pass(1);
            x.cancel(0);
            x.loom(3, 0, 0, 0);
            x.loom(0, 100, 1, 0);
            x.set(3, cost);
            x.order(0, 50, 1, 4, 9);
            Check.due("pass(1)", x.pass(1), 1);
            Check.due("debt of one who is due nothing, at " + cost, x.weaver(3, 3), cost == 0 ? 0 : 25);
            Check.due("earned by it, at " + cost, x.weaver(3, 4), 0);
            Check.due("debt of the weaver, at " + cost, x.weaver(0, 3), cost == 0 ? 0 : 1);
            Check.due("earned by the weaver, at " + cost, x.weaver(0, 4), cost == 0 ? 4 : 0);
            Check.due("borrowed so far, at " + cost, x.weaver(3, 7), 25);
        }
    }

    private static void passUndone() {
        Check.undoes("pass(7)", OrderTest::threeLooms, x -> x.pass(7), 1);
        Check.undoes("pass(1), changing nothing but the hour", WeaveShares::new, x -> x.pass(1), 0);
    }

    private static WeaveShares threeLooms() {
        WeaveShares x = new WeaveShares();
        x.loom(0, 100, 5, 2);
        x.loom(1, 60, 3, 0);
        x.loom(2, 50, 3, 0);
        x.store(0, 300);
        x.yarn(1, 1, 100);
        x.order(0, 60, 20, 7, 1);
        x.order(1, 55, 10, 9, 0);
        x.order(0, 70, 30, 9, 0);
        return x;
    }
}
