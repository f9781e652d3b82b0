/** Sentences with bounds: promises 22 to 27. */
public final class ForecastBoundsTest {
    private static final int NONE = WeaveShares.NONE;

    private ForecastBoundsTest() {
    }

    public static void main(String[] args) {
        Check.sentence("what would be; nothing is changed", ForecastBoundsTest::nothingIsChanged);
        ifPassed();
        doneIn();
        bestRule();
        dueNow();
        evenness();
        digest();
        Check.end("ForecastBoundsTest");
    }

    private static void ifPassed() {
        Check.sentence("ifPassed: `hours`: 1 to 200", ForecastBoundsTest::foreseenHours);
        Check.sentence("if hours or what is out of range", ForecastBoundsTest::ifPassedRefused);
        Check.sentence("(the limit of 9999 does not matter)", ForecastBoundsTest::noLimit);
        Check.sentence("0: orders that would be done in them; 1: what would be paid; 2: faults",
                ForecastBoundsTest::onlyInThem);
        Check.sentence("3: the debt of all weavers then", ForecastBoundsTest::debtThen);
        Check.sentence("4: orders that would be late of those that would be done",
                ForecastBoundsTest::lateOfThem);
        Check.sentence("ifPassed: Returns the number.", ForecastBoundsTest::nothingToCome);
        Check.sentence("Tells what hours would bring", ForecastBoundsTest::hoursOfFaults);
    }

    private static void doneIn() {
        Check.sentence("Returns behind how many hours, 1 to 200; NONE if not behind 200.",
                ForecastBoundsTest::behindHours);
        Check.sentence("Tells when an order would be done, if only hours pass.",
                ForecastBoundsTest::ifOnlyHoursPass);
        Check.sentence("Tells when an order would be done, if only hours pass.",
                ForecastBoundsTest::withoutTheStore);
        Check.sentence("doneIn: if there is no such order", ForecastBoundsTest::doneInRefused);
    }

    private static void bestRule() {
        Check.sentence("bestRule: `hours`: 1 to 99", ForecastBoundsTest::bestRuleHours);
        Check.sentence("the setting 0 with which most would be paid in so many hours",
                ForecastBoundsTest::mostPaid);
        Check.sentence("of several the one with which fewest orders would be late of those that would"
                + " be done", ForecastBoundsTest::fewestLate);
        Check.sentence("of these the lowest", ForecastBoundsTest::lowestRule);
    }

    private static void dueNow() {
        Check.sentence("0 if nothing is", ForecastBoundsTest::nothingIsGood);
        Check.sentence("What the weaver would be due of it, ahead of debts", ForecastBoundsTest::aheadOfDebts);
        Check.sentence("if its length was what is good of it now", ForecastBoundsTest::goodAsLength);
        Check.sentence("if an order was done now", ForecastBoundsTest::lateNow);
        Check.sentence("dueNow: if there is no such order or weaver", ForecastBoundsTest::dueNowRefused);
    }

    private static void evenness() {
        Check.sentence("1.0 if that is 0", ForecastBoundsTest::nothingEarned);
        Check.sentence("or without looms", ForecastBoundsTest::withoutLooms);
        Check.sentence("the least of what the weavers with looms earned so far, as a double, divided by"
                + " the greatest", ForecastBoundsTest::leastByGreatest);
    }

    private static void digest() {
        Check.sentence("The hash starts at 2861.", ForecastBoundsTest::digestOfNew);
        Check.sentence("in long arithmetic with overflow", ForecastBoundsTest::digestOfFull);
        Check.sentence("the length of the buffer and each of its character codes",
                ForecastBoundsTest::digestOfBuffer);
        Check.sentence("ifPassed of 20 with 0 to 4; bestRule of 12", ForecastBoundsTest::digestOfHours);
        Check.sentence("the bits of evenness (as Double.doubleToLongBits)",
                ForecastBoundsTest::digestOfEvenness);
    }

    private static void nothingIsChanged() {
        for (Check.Maker maker : new Check.Maker[] {WeaveShares::new, Made::busy, Made::full,
            LookTest::paid, ForecastBoundsTest::atTheLimit}) {
            for (int i = 0; i < 5; i++) {
                int what = i;
                Check.changesNothing("ifPassed", maker, x -> x.ifPassed(200, what));
            }
            Check.changesNothing("doneIn", maker, x -> x.count(1) == 0 ? 0 : x.doneIn(x.orderOf(0, 0)));
            Check.changesNothing("bestRule", maker, x -> x.bestRule(99));
            Check.changesNothing("dueNow", maker, x -> x.count(1) == 0 ? 0 : x.dueNow(x.orderOf(0, 0), 0));
            Check.changesNothing("evenness", maker, x -> (long) x.evenness());
            Check.changesNothing("digest", maker, WeaveShares::digest);
        }
    }

    /** 9999 hours have gone, and an order takes three more. */
    private static WeaveShares atTheLimit() {
        WeaveShares x = Made.at(9999);
        x.loom(0, 60, 9, 4);
        x.loom(1, 40, 1, 0);
        x.store(0, 9999);
        x.order(0, 50, 20, 9, 9999);
        return x;
    }

    /** An order that is done behind so many hours. */
    private static WeaveShares doneBehind(int hours) {
        WeaveShares x = Made.weaving(1, 0);
        x.order(0, 40, Math.min(hours, 200), 1, 9999);
        if (hours > 200) {
            // One order more, which goes first.
            x.order(0, 40, hours - 200, 1, 0);
        }
        return x;
    }

    private static void foreseenHours() {
        for (int hours : new int[] {1, 2, 98, 99, 100, 199, 200}) {
            WeaveShares x = doneBehind(hours);
            Check.due("ifPassed(" + hours + ", 0)", x.ifPassed(hours, 0), 1);
            Check.due("ifPassed(" + hours + ", 1)", x.ifPassed(hours, 1), hours);
            if (hours > 1) {
                Check.due("ifPassed of an hour less than " + hours, x.ifPassed(hours - 1, 0), 0);
                Check.due("ifPassed of an hour less than " + hours, x.ifPassed(hours - 1, 1), 0);
            }
        }
        WeaveShares y = doneBehind(201);
        Check.due("ifPassed(200, 0) of the first of two", y.ifPassed(200, 0), 1);
        Check.due("ifPassed(200, 1) of the first of two", y.ifPassed(200, 1), 1);
    }

    private static void ifPassedRefused() {
        for (int i = 0; i < 5; i++) {
            int what = i;
            Check.argumentEach("ifPassed(..., " + i + ")", Made::busy, Made.outside(1, 200),
                    (x, hours) -> x.ifPassed(hours, what));
        }
        for (int i : new int[] {1, 200}) {
            Check.argumentEach("ifPassed(" + i + ", ...)", Made::busy, Made.outside(0, 4),
                    (x, what) -> x.ifPassed(i, what));
        }
        Check.refusesArgument("ifPassed(0, 5)", Made::busy, x -> x.ifPassed(0, 5));
        Check.refusesArgument("ifPassed(201, -1)", Made::busy, x -> x.ifPassed(201, -1));
    }

    private static void noLimit() {
        WeaveShares x = atTheLimit();
        // 9, 9 and 9 decimetres with two faults each: done in the third hour, two hours late.
        int[][] want = {{0, 0, 2, 45, 0}, {0, 0, 4, 90, 0}, {1, 162, 6, 0, 1}};
        for (int hours = 1; hours <= 3; hours++) {
            for (int what = 0; what < 5; what++) {
                Check.due("ifPassed(" + hours + ", " + what + ") at 9999", x.ifPassed(hours, what),
                        want[hours - 1][what]);
            }
        }
        Check.due("ifPassed(200, 0) at 9999", x.ifPassed(200, 0), 1);
        // Of the other calls no limit is told.
        Check.due("doneIn(0) at 9999", x.doneIn(0), 3);
        x.order(0, 60, 1, 1, 9999);
        Check.due("bestRule(1) at 9999", x.bestRule(1), 1);
        x.undo();
        Check.due("hours", x.count(0), 9999);
        WeaveShares y = Made.at(9998);
        y.loom(0, 60, 1, 0);
        y.yarn(0, 0, 99);
        y.order(0, 50, 3, 9, 9998);
        Check.due("ifPassed(3, 1) at 9998, two hours late", y.ifPassed(3, 1), 25);
        Check.due("ifPassed(3, 4) at 9998, two hours late", y.ifPassed(3, 4), 1);
    }

    private static void onlyInThem() {
        WeaveShares x = Made.weaving(3, 2);
        for (int i = 0; i < 4; i++) {
            x.order(0, 50, 3, 7, 99);
        }
        x.pass(2);
        // Each takes two hours: two good ones with a fault between, and then a good one behind a fault.
        int done = x.count(2);
        int paid = x.count(4);
        int faults = x.count(6);
        Check.due("done before", done, 1);
        WeaveShares y = Made.weaving(3, 2);
        for (int i = 0; i < 4; i++) {
            y.order(0, 50, 3, 7, 99);
        }
        y.pass(2);
        y.pass(5);
        Check.due("ifPassed(5, 0)", x.ifPassed(5, 0), y.count(2) - done);
        Check.due("ifPassed(5, 1)", x.ifPassed(5, 1), y.count(4) - paid);
        Check.due("ifPassed(5, 2)", x.ifPassed(5, 2), y.count(6) - faults);
        Check.due("ifPassed(200, 0)", x.ifPassed(200, 0), 3);
        Check.due("ifPassed(200, 1)", x.ifPassed(200, 1), 63);
    }

    private static void debtThen() {
        WeaveShares x = new WeaveShares();
        x.loom(0, 50, 1, 0);
        x.store(0, 20);
        x.order(0, 50, 3, 5, 9);
        x.pass(1);
        // 5 before; 10 behind an hour; all is paid behind two.
        Check.due("debt", x.count(8), 5);
        Check.due("ifPassed(1, 3)", x.ifPassed(1, 3), 10);
        Check.due("ifPassed(2, 3)", x.ifPassed(2, 3), 0);
        Check.due("ifPassed(200, 3)", x.ifPassed(200, 3), 0);
        x.cancel(0);
        Check.due("ifPassed(200, 3) when nothing comes", x.ifPassed(200, 3), 5);
    }

    private static void lateOfThem() {
        WeaveShares x = Made.weaving(1, 0);
        int[] dues = {0, 0, 1, 4, 4, 5};
        for (int due : dues) {
            x.order(0, 40, 1, 1, due);
        }
        // Done at the hours 0 to 5: late by 0, 1, 1, -1, 0 and 0 hours.
        int[] late = {0, 1, 2, 2, 2, 2};
        for (int hours = 1; hours <= 6; hours++) {
            Check.due("ifPassed(" + hours + ", 4)", x.ifPassed(hours, 4), late[hours - 1]);
        }
        Check.due("ifPassed(200, 4)", x.ifPassed(200, 4), 2);
        x.pass(3);
        Check.due("ifPassed(200, 4), not those before", x.ifPassed(200, 4), 0);
        x.set(2, 0);
        x.pass(3);
        x.order(0, 40, 1, 1, 5);
        Check.due("ifPassed(1, 4) when lateness costs nothing", x.ifPassed(1, 4), 1);
        // Late, but not done in the hours.
        x.cancel(6);
        x.order(0, 40, 2, 1, 0);
        Check.due("ifPassed(1, 4) of one that is not done", x.ifPassed(1, 4), 0);
        Check.due("ifPassed(2, 4) of one that is done", x.ifPassed(2, 4), 1);
    }

    private static void nothingToCome() {
        for (int what = 0; what < 5; what++) {
            Check.due("ifPassed(200, " + what + ") of a new object",
                    new WeaveShares().ifPassed(200, what), 0);
            Check.due("ifPassed(1, " + what + ") of a new object",
                    new WeaveShares().ifPassed(1, what), 0);
        }
    }

    /** Hours of faults, and looms that stand still, do not end what the others bring. */
    private static void hoursOfFaults() {
        WeaveShares x = Made.weaving(1, 2);
        x.loom(1, 40, 9, 0);
        x.order(0, 50, 5, 1, 99);
        // Five good ones with four faults between them.
        int[][] want = {{1, 0, 0}, {2, 0, 1}, {8, 0, 4}, {9, 1, 4}, {10, 1, 4}};
        for (int[] one : want) {
            Check.due("ifPassed(" + one[0] + ", 0)", x.ifPassed(one[0], 0), one[1]);
            Check.due("ifPassed(" + one[0] + ", 1)", x.ifPassed(one[0], 1), 5 * one[1]);
            Check.due("ifPassed(" + one[0] + ", 2)", x.ifPassed(one[0], 2), one[2]);
        }
        Check.due("doneIn(0)", x.doneIn(0), 9);
        x.order(0, 60, 5, 2, 99);
        Check.due("bestRule(8) of nothing", x.bestRule(8), 0);
        Check.due("bestRule(9) of 5 and 10", x.bestRule(9), 1);
    }

    private static void behindHours() {
        for (int hours : new int[] {1, 2, 99, 100, 199, 200}) {
            WeaveShares x = doneBehind(hours);
            Check.due("doneIn of " + hours, x.doneIn(0), hours);
        }
        WeaveShares x = doneBehind(201);
        Check.due("doneIn of 201", x.doneIn(0), NONE);
        Check.due("doneIn of the one before it", x.doneIn(1), 1);
        x.pass(1);
        Check.due("doneIn of 201, an hour later", x.doneIn(0), 200);
        // Ten orders of one decimetre each.
        WeaveShares ten = Made.weaving(1, 0);
        for (int i = 0; i < 10; i++) {
            ten.order(0, 40, 1, 1, i);
        }
        for (int i = 0; i < 10; i++) {
            Check.due("doneIn(" + i + ") of ten", ten.doneIn(i), i + 1);
        }
        // By a fault: the 99th is one, so that 199 decimetres take 201 hours, and 198 take 200.
        for (int length : new int[] {197, 198, 199}) {
            WeaveShares y = Made.weaving(1, 99);
            y.order(0, 40, length, 1, 0);
            Check.due("doneIn of " + length + " with a care of 99", y.doneIn(0),
                    length == 199 ? NONE : length + 2);
        }
    }

    private static void ifOnlyHoursPass() {
        WeaveShares x = new WeaveShares();
        x.order(0, 50, 5, 5, 5);
        Check.due("doneIn without looms", x.doneIn(0), NONE);
        x.loom(0, 49, 1, 0);
        Check.due("doneIn with too narrow a loom", x.doneIn(0), NONE);
        x.loom(0, 50, 1, 0);
        Check.due("doneIn without yarn", x.doneIn(0), NONE);
        x.yarn(0, 0, 24);
        Check.due("doneIn with a gram too little", x.doneIn(0), NONE);
        x.yarn(0, 0, 1);
        Check.due("doneIn with just enough", x.doneIn(0), 5);
        x.loom(0, 50, 9, 1);
        Check.due("doneIn with faults alone", x.doneIn(0), NONE);
        // What comes first uses up the yarn.
        x.loom(0, 50, 1, 0);
        x.order(0, 50, 1, 5, 4);
        Check.due("doneIn behind another one", x.doneIn(0), NONE);
        Check.due("doneIn of the other one", x.doneIn(1), 1);
        x.set(0, 1);
        x.order(0, 40, 1, 1, 0);
        Check.due("doneIn with another rule", x.doneIn(1), 1);
        Check.due("doneIn with another rule, of a narrow one", x.doneIn(2), NONE);
    }

    private static void withoutTheStore() {
        WeaveShares x = new WeaveShares();
        x.loom(0, 60, 1, 0);
        x.store(0, 5);
        x.yarn(0, 1, 6);
        x.order(0, 50, 1, 9, 0);
        x.order(1, 60, 1, 2, 1);
        Check.due("ifPassed(1, 1)", x.ifPassed(1, 1), 9);
        Check.due("doneIn(0)", x.doneIn(0), 1);
        Check.due("bestRule(1)", x.bestRule(1), 0);
        x.set(1, 0);
        Check.due("ifPassed(1, 1) when the store does not lend", x.ifPassed(1, 1), 0);
        Check.due("doneIn(0) when the store does not lend", x.doneIn(0), NONE);
        Check.due("bestRule(1) when the store does not lend", x.bestRule(1), 1);
    }

    private static void doneInRefused() {
        Check.indexEach("doneIn, without orders,", WeaveShares::new,
                new int[] {Integer.MIN_VALUE, -1, 0, Integer.MAX_VALUE}, WeaveShares::doneIn);
        Check.indexEach("doneIn, with three orders,", Made::busy,
                new int[] {Integer.MIN_VALUE, -1, 3, 10, Integer.MAX_VALUE}, WeaveShares::doneIn);
        Check.indexEach("doneIn of those gone,", LookTest::paid, new int[] {0, 1, 3}, WeaveShares::doneIn);
        Check.due("doneIn(9) of ten", Made.full().doneIn(9), NONE);
        Check.indexEach("doneIn, with ten orders,", Made::full, new int[] {10, 11}, WeaveShares::doneIn);
    }

    private static void bestRuleHours() {
        for (int hours : new int[] {1, 2, 98, 99}) {
            // By the order and by width nothing is done; by price one is, in the last hour.
            WeaveShares x = Made.weaving(1, 0);
            x.order(0, 60, 200, 1, 0);
            x.order(0, 50, hours, 2, 9999);
            Check.due("bestRule(" + hours + ")", x.bestRule(hours), 2);
            if (hours > 1) {
                Check.due("bestRule of an hour less than " + hours, x.bestRule(hours - 1), 0);
            }
        }
        Check.argumentEach("bestRule", Made::busy, Made.outside(1, 99), WeaveShares::bestRule);
        Check.argumentEach("bestRule", Made::busy, new int[] {-1, 200}, WeaveShares::bestRule);
    }

    private static void mostPaid() {
        // 10 by the order, 11 by width, 12 by price.
        WeaveShares x = Made.weaving(1, 0);
        x.order(0, 40, 1, 10, 3);
        x.order(0, 60, 1, 11, 4);
        x.order(0, 50, 1, 12, 5);
        Check.due("bestRule(1)", x.bestRule(1), 2);
        x.cancel(2);
        x.order(0, 50, 2, 99, 5);
        Check.due("bestRule(1) of 10, 11 and 0", x.bestRule(1), 1);
        Check.due("bestRule(2) of 21, 21 and 198", x.bestRule(2), 2);
        x.cancel(1);
        x.order(0, 60, 2, 98, 5);
        Check.due("bestRule(1) of 10, 0 and 0", x.bestRule(1), 0);
        // The present rule does not matter, nor what was paid before.
        for (int rule = 0; rule < 3; rule++) {
            WeaveShares y = Made.weaving(1, 0);
            y.order(0, 50, 1, 99, 0);
            y.pass(1);
            y.set(0, rule);
            y.order(0, 40, 1, 10, 3);
            y.order(0, 60, 1, 11, 4);
            Check.due("bestRule(1) with rule " + rule, y.bestRule(1), 1);
            Check.due("the rule stays", y.setting(0), rule);
        }
    }

    private static void fewestLate() {
        // All three bring 10 in an hour; by the order and by price it is late.
        WeaveShares x = Made.weaving(1, 0);
        x.pass(5);
        x.set(2, 0);
        x.order(0, 50, 1, 10, 4);
        x.order(0, 60, 1, 10, 5);
        Check.due("bestRule(1) of one late and none", x.bestRule(1), 1);
        Check.due("bestRule(2) of two late and one", x.bestRule(2), 1);
        // More late ones, but also more pay.
        x.cancel(0);
        x.order(0, 50, 1, 11, 4);
        Check.due("bestRule(1) of 11 late and 10 in time", x.bestRule(1), 0);
        // Those that were late before do not count.
        WeaveShares y = Made.weaving(1, 0);
        y.pass(5);
        y.set(2, 0);
        y.order(0, 50, 1, 10, 0);
        y.pass(1);
        y.order(0, 50, 1, 10, 4);
        y.order(0, 60, 1, 10, 9);
        Check.due("bestRule(1) behind a late one", y.bestRule(1), 1);
    }

    private static void lowestRule() {
        Check.due("bestRule(1) of a new object", new WeaveShares().bestRule(1), 0);
        Check.due("bestRule(99) of a new object", new WeaveShares().bestRule(99), 0);
        // By width and by price the same is done: 1 is lower than 2.
        WeaveShares x = Made.weaving(1, 0);
        x.order(0, 50, 1, 10, 4);
        x.order(0, 60, 1, 11, 5);
        Check.due("bestRule(1) of 10, 11 and 11", x.bestRule(1), 1);
        Check.due("bestRule(2) of 21 each", x.bestRule(2), 0);
        for (int rule = 0; rule < 3; rule++) {
            WeaveShares y = Made.busy();
            y.set(0, rule);
            y.set(1, 0);
            Check.due("bestRule(1) of nothing with rule " + rule, y.bestRule(1), 0);
        }
    }

    private static void nothingIsGood() {
        WeaveShares x = Made.weaving(3, 1);
        x.order(0, 50, 9, 99, 9);
        for (int w = 0; w < 6; w++) {
            Check.due("dueNow(0, " + w + ") of a new order", x.dueNow(0, w), 0);
        }
        x.pass(1);
        Check.due("dueNow(0, 0) of faults alone", x.dueNow(0, 0), 0);
        x.loom(0, 50, 1, 0);
        x.pass(1);
        Check.due("dueNow(0, 0) of one", x.dueNow(0, 0), 99);
        for (int w = 1; w < 6; w++) {
            Check.due("dueNow(0, " + w + ") of one by 0", x.dueNow(0, w), 0);
        }
    }

    private static void aheadOfDebts() {
        for (int cost = 0; cost <= 9; cost += 3) {
            WeaveShares x = new WeaveShares();
            x.loom(0, 50, 3, 0);
            x.store(0, 99);
            x.set(3, cost);
            x.order(0, 50, 9, 4, 9);
            x.pass(1);
            Check.due("debt", x.weaver(0, 3), 15);
            Check.due("dueNow(0, 0) with a cost of " + cost, x.dueNow(0, 0), 12);
            Check.due("debt, still", x.weaver(0, 3), 15);
        }
    }

    private static void goodAsLength() {
        WeaveShares x = Made.at(2);
        int[] speeds = {1, 2, 2, 1};
        for (int w = 0; w < 4; w++) {
            x.loom(w, 50, speeds[w], 0);
            x.yarn(w, 0, 999);
        }
        x.order(0, 50, 200, 3, 1);
        x.pass(1);
        // Three hours have gone: 18 less 1 are 17, of six: 2, 5, 5, 2, and three over.
        int[] want = {2, 8, 5, 2, 0, 0};
        for (int w = 0; w < 6; w++) {
            Check.due("dueNow(0, " + w + ")", x.dueNow(0, w), want[w]);
        }
        x.loom(2, 50, 3, 0);
        x.pass(1);
        // Three late hours: 39 less 5 are 34, of 13: 5, 10, 13, 5, and one over.
        int[] then = {5, 10, 14, 5, 0, 0};
        for (int w = 0; w < 6; w++) {
            Check.due("dueNow(0, " + w + ") then", x.dueNow(0, w), then[w]);
        }
    }

    private static void lateNow() {
        int[][] dues = {{6, 90}, {5, 90}, {4, 81}, {3, 72}, {0, 45}};
        for (int[] one : dues) {
            WeaveShares x = Made.at(4);
            x.set(2, 10);
            x.loom(0, 50, 9, 0);
            x.yarn(0, 0, 999);
            x.order(0, 50, 200, 10, one[0]);
            x.pass(1);
            // Five hours have gone.
            Check.due("dueNow(0, 0), due at " + one[0], x.dueNow(0, 0), one[1]);
            x.set(2, 50);
            Check.due("dueNow(0, 0), due at " + one[0] + ", cost 50", x.dueNow(0, 0),
                    one[0] >= 5 ? 90 : one[0] == 4 ? 45 : 0);
            x.set(2, 0);
            Check.due("dueNow(0, 0), due at " + one[0] + ", cost 0", x.dueNow(0, 0), 90);
        }
    }

    private static void dueNowRefused() {
        Check.indexEach("dueNow(..., 0), without orders,", WeaveShares::new,
                new int[] {Integer.MIN_VALUE, -1, 0, Integer.MAX_VALUE}, (x, n) -> x.dueNow(n, 0));
        Check.indexEach("dueNow(..., 0), with three orders,", Made::busy,
                new int[] {Integer.MIN_VALUE, -1, 3, 10, Integer.MAX_VALUE}, (x, n) -> x.dueNow(n, 0));
        Check.indexEach("dueNow(..., 0) of those gone,", LookTest::paid, new int[] {0, 1, 3},
                (x, n) -> x.dueNow(n, 0));
        Check.indexEach("dueNow(0, ...)", Made::busy, Made.NO_WEAVER, (x, w) -> x.dueNow(0, w));
        Check.refusesIndex("dueNow(3, 6)", Made::busy, x -> x.dueNow(3, 6));
    }

    /** Weavers 1, 2 and 4 earn 10, 20 and 40. */
    private static WeaveShares earning() {
        WeaveShares x = new WeaveShares();
        int[] looms = {1, 2, 4};
        int[] speeds = {1, 2, 4};
        for (int i = 0; i < 3; i++) {
            x.loom(looms[i], 50, speeds[i], 0);
            x.yarn(looms[i], 0, 99);
        }
        x.order(0, 50, 7, 10, 9);
        x.pass(1);
        return x;
    }

    private static void nothingEarned() {
        WeaveShares x = new WeaveShares();
        x.loom(0, 50, 1, 0);
        Check.due("evenness() of one loom", x.evenness(), 1.0);
        for (int w = 1; w < 6; w++) {
            x.loom(w, 50, 1, 0);
        }
        Check.due("evenness() of six looms", x.evenness(), 1.0);
        // Those who earned have no loom now.
        WeaveShares y = earning();
        y.loom(1, 0, 0, 0);
        y.loom(2, 0, 0, 0);
        y.loom(4, 0, 0, 0);
        y.loom(3, 50, 1, 0);
        Check.due("evenness() of a loom that earned nothing", y.evenness(), 1.0);
        y.loom(4, 50, 1, 0);
        Check.due("evenness() of nothing and 40", y.evenness(), 0.0);
    }

    private static void withoutLooms() {
        Check.due("evenness() of a new object", new WeaveShares().evenness(), 1.0);
        WeaveShares x = earning();
        x.loom(1, 0, 0, 0);
        x.loom(2, 0, 0, 0);
        x.loom(4, 0, 0, 0);
        Check.due("evenness() without looms, of those who earned", x.evenness(), 1.0);
    }

    private static void leastByGreatest() {
        WeaveShares x = earning();
        Check.due("evenness() of 10, 20 and 40", x.evenness(), 0.25);
        x.loom(1, 0, 0, 0);
        Check.due("evenness() of 20 and 40", x.evenness(), 0.5);
        x.loom(4, 0, 0, 0);
        Check.due("evenness() of 20", x.evenness(), 1.0);
        x.loom(1, 40, 1, 0);
        Check.due("evenness() of 10 and 20", x.evenness(), 0.5);
        x.loom(0, 40, 1, 0);
        Check.due("evenness() of 0, 10 and 20", x.evenness(), 0.0);
        // 1 to 3 is not rounded.
        WeaveShares y = new WeaveShares();
        y.loom(0, 50, 1, 0);
        y.loom(5, 50, 3, 0);
        y.yarn(0, 0, 99);
        y.yarn(5, 0, 99);
        y.order(0, 50, 4, 7, 0);
        y.pass(1);
        Check.due("evenness() of 7 and 21", y.evenness(), 7.0 / 21.0);
        // The least that can be earned is not 0.
        WeaveShares z = new WeaveShares();
        z.loom(0, 50, 1, 0);
        z.loom(5, 50, 1, 0);
        z.yarn(0, 0, 99);
        z.order(0, 50, 1, 1, 0);
        z.pass(1);
        Check.due("evenness() of 1 and 0", z.evenness(), 0.0);
    }

    private static void digestOfNew() {
        WeaveShares x = new WeaveShares();
        Check.due("digest() of a new object", x.digest(), Digest.of(x, ""));
        Check.due("digest() of another one", new WeaveShares().digest(), x.digest());
    }

    private static void digestOfFull() {
        WeaveShares x = Made.full();
        Check.due("digest() of ten orders", x.digest(), Digest.of(x, ""));
        WeaveShares y = atTheLimit();
        Check.due("digest() at 9999", y.digest(), Digest.of(y, ""));
        WeaveShares z = Made.busy();
        Check.due("digest() of much", z.digest(), Digest.of(z, "5x90c0$7;1"));
        WeaveShares p = LookTest.paid();
        Check.due("digest() behind pay", p.digest(), Digest.of(p, ""));
    }

    private static void digestOfBuffer() {
        StringBuilder text = new StringBuilder();
        for (int length = 0; length <= 60; length++) {
            if (length < 3 || length > 57) {
                WeaveShares x = Made.buffered(text.toString());
                Check.due("digest() with " + length + " in the buffer", x.digest(),
                        Digest.of(x, text.toString()));
            }
            text.append((char) (33 + length * 93 / 60));
        }
        // What was cleared does not count.
        WeaveShares x = Made.buffered("1x40c0");
        x.clearBuffer();
        Check.due("digest() of a cleared buffer", x.digest(), new WeaveShares().digest());
    }

    private static void digestOfHours() {
        for (int hours : new int[] {11, 12, 13, 19, 20, 21}) {
            WeaveShares x = Made.weaving(1, 9);
            x.store(1, 99);
            x.order(0, 60, 200, 1, 0);
            x.order(0, 50, hours - hours / 9, 2, 1);
            Check.due("digest() of " + hours + " hours by the order", x.digest(), Digest.of(x, ""));
            x.set(0, 2);
            Check.due("digest() of " + hours + " hours by price", x.digest(), Digest.of(x, ""));
        }
    }

    private static void digestOfEvenness() {
        WeaveShares x = earning();
        Check.due("digest() with 0.25", x.digest(), Digest.of(x, ""));
        x.loom(0, 50, 1, 0);
        Check.due("digest() with 0.0", x.digest(), Digest.of(x, ""));
        // 1 to 1190, and 1189 to 1190.
        for (int first : new int[] {1, 3, 595, 1189}) {
            WeaveShares y = new WeaveShares();
            y.loom(0, 40, 9, 0);
            y.loom(1, 50, 9, 0);
            y.yarn(0, 0, 9999);
            y.yarn(1, 1, 9999);
            earn(y, 1, 0, first);
            earn(y, 0, 1, 1190);
            Check.due("digest() with " + first + " of 1190", y.digest(), Digest.of(y, ""));
            Check.due("evenness() with " + first + " of 1190", y.evenness(), first / 1190.0);
        }
    }

    /** The other loom is away for so long. */
    private static void earn(WeaveShares x, int away, int weaver, int money) {
        x.loom(away, 0, 0, 0);
        int hours = 0;
        for (int left = money; left > 0; left -= Math.min(left, 99)) {
            x.order(weaver, 40, 1, Math.min(left, 99), 9999);
            x.pass(1);
            hours++;
        }
        x.loom(away, 50, 9, 0);
        Check.due("earned in " + hours + " hours", x.weaver(weaver, 4), money);
    }
}
