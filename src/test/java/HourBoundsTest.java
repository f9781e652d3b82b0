/** Sentences with bounds: "An hour" up to the faults, and promise 9. */
public final class HourBoundsTest {
    private static final int STORE = WeaveShares.NONE;

    private HourBoundsTest() {
    }

    public static void main(String[] args) {
        hours();
        choices();
        yarn();
        faults();
        Check.end("HourBoundsTest");
    }

    private static void hours() {
        Check.sentence("The hours are counted from 0; at first 0 have gone.",
                HourBoundsTest::hoursFromZero);
        Check.sentence("pass: `hours`: 1 to 99", HourBoundsTest::hoursOfACall);
        Check.sentence("if more than 9999 hours would have gone", HourBoundsTest::mostHours);
        Check.sentence("Returns how many orders are done in them.", HourBoundsTest::doneInThem);
        Check.sentence("the weavers with a loom are gone through by ascending numbers",
                HourBoundsTest::ascending);
    }

    private static void choices() {
        Check.sentence("of those whose width is at most that of the loom", HourBoundsTest::fits);
        Check.sentence("as 0: the first one by the order", HourBoundsTest::firstByTheOrder);
        Check.sentence("as 1: the one with the greatest width", HourBoundsTest::greatestWidth);
        Check.sentence("as 2: the one with the greatest price", HourBoundsTest::greatestPrice);
        Check.sentence("of several always the first one by the order", HourBoundsTest::ofSeveral);
        Check.sentence("Without one the loom stands still.", HourBoundsTest::standsStill);
        Check.sentence("as many as the speed tells", HourBoundsTest::asTheSpeedTells);
        Check.sentence("or until the order is done", HourBoundsTest::untilItIsDone);
    }

    private static void yarn() {
        Check.sentence("Each one takes its yarn from the weaver's share", HourBoundsTest::fromTheShare);
        Check.sentence("if that has not enough, ... all of it from the store instead"
                + " (the share stays as it is)", HourBoundsTest::allFromTheStore);
        Check.sentence("as a debt of the weaver", HourBoundsTest::asADebt);
        Check.sentence("if the store has enough", HourBoundsTest::storeHasEnough);
        Check.sentence("with setting 1 as 1", HourBoundsTest::storeDoesNotLend);
        Check.sentence("otherwise the weaver stops for this hour", HourBoundsTest::stopsForThisHour);
        Check.sentence("(without choosing another order)", HourBoundsTest::choosesNoOther);
    }

    private static void faults() {
        Check.sentence("Each decimetre that is woven counts for the weaver",
                HourBoundsTest::eachCounts);
        Check.sentence("if the care is above 0", HourBoundsTest::careOfZero);
        Check.sentence("that the weaver has woven so far, this one included, are divisible by the care",
                HourBoundsTest::divisibleByTheCare);
        Check.sentence("that the weaver has woven so far", HourBoundsTest::wovenSoFar);
        Check.sentence("its yarn is lost, and it is not good", HourBoundsTest::yarnIsLost);
    }

    private static void hoursFromZero() {
        WeaveShares x = new WeaveShares();
        Check.due("hours at first", x.count(0), 0);
        x.pass(1);
        Check.due("hours", x.count(0), 1);
        x.pass(99);
        Check.due("hours", x.count(0), 100);
        // An order due at 0 that is done in the first hour is in time.
        WeaveShares y = Made.weaving(9, 0);
        y.order(0, 50, 1, 99, 0);
        y.pass(1);
        Check.due("late", y.count(3), 0);
        Check.due("paid", y.count(4), 99);
    }

    private static void hoursOfACall() {
        for (int hours : new int[] {1, 2, 98, 99}) {
            WeaveShares x = Made.weaving(1, 0);
            x.order(0, 50, 200, 1, 9999);
            Check.due("pass(" + hours + ")", x.pass(hours), 0);
            Check.due("hours", x.count(0), hours);
            Check.due("woven", x.count(5), hours);
        }
        Check.argumentEach("pass", Made::busy, Made.outside(1, 99), WeaveShares::pass);
        Check.argumentEach("pass", Made::busy, new int[] {-1, -99, 200}, WeaveShares::pass);
    }

    private static void mostHours() {
        int[][] taken = {{9998, 1}, {9900, 99}, {9997, 2}, {9950, 49}};
        for (int[] one : taken) {
            WeaveShares x = Made.at(one[0]);
            Check.due("pass(" + one[1] + ") at " + one[0], x.pass(one[1]), 0);
            Check.due("hours", x.count(0), 9999);
        }
        int[][] refused = {{9999, 1}, {9998, 2}, {9901, 99}, {9950, 50}, {9999, 99}};
        for (int[] one : refused) {
            Check.refusesState("pass(" + one[1] + ") at " + one[0], () -> Made.at(one[0]),
                    x -> x.pass(one[1]));
        }
        // Undone hours may pass again.
        WeaveShares y = Made.at(9999);
        y.undo();
        Check.due("pass(99) behind undo", y.pass(99), 0);
        Check.due("hours", y.count(0), 9999);
    }

    private static void doneInThem() {
        WeaveShares x = new WeaveShares();
        for (int w = 0; w < 6; w++) {
            x.loom(w, 50, 9, 0);
            x.yarn(w, 0, 9999);
        }
        Check.due("pass(1) without orders", x.pass(1), 0);
        for (int i = 0; i < 10; i++) {
            x.order(0, 50, 1, 1, i);
        }
        Check.due("pass(1): one for each loom", x.pass(1), 6);
        Check.due("pass(1): the rest, not those before", x.pass(1), 4);
        Check.due("pass(1): none", x.pass(1), 0);
        Check.due("done so far", x.count(2), 10);
        for (int i = 0; i < 10; i++) {
            x.order(0, 50, 1, 1, i);
        }
        Check.due("pass(2): ten in one call", x.pass(2), 10);
    }

    private static void ascending() {
        WeaveShares x = new WeaveShares();
        // The store has yarn for three, in whatever order the looms came.
        for (int w = 5; w >= 0; w--) {
            if (w != 1) {
                x.loom(w, 50, 1, 0);
            }
        }
        x.store(0, 15);
        x.order(0, 50, 100, 1, 9);
        x.pass(1);
        int[] woven = {1, 0, 1, 1, 0, 0};
        for (int w = 0; w < 6; w++) {
            Check.due("woven by " + w, x.weaver(w, 5), woven[w]);
        }
        // 0 ends the first order, so that 5 begins the next one in the same hour.
        WeaveShares y = new WeaveShares();
        y.loom(5, 50, 9, 0);
        y.loom(0, 50, 1, 0);
        y.store(0, 999);
        y.order(0, 50, 1, 9, 1);
        y.order(0, 50, 100, 1, 2);
        Check.due("pass(1)", y.pass(1), 1);
        Check.due("earned by 0, less the debt", y.weaver(0, 4), 4);
        Check.due("woven by 5 of the next one", y.wovenBy(0, 5), 9);
    }

    private static void fits() {
        int[][] widths = {{40, 40, 0}, {40, 41, -1}, {60, 60, 0}, {60, 61, -1}, {60, 59, 0},
            {199, 200, -1}, {200, 200, 0}, {200, 40, 0}};
        for (int[] one : widths) {
            String call = "an order of " + one[1] + " on a loom of " + one[0];
            WeaveShares x = new WeaveShares();
            x.loom(2, one[0], 1, 0);
            x.store(3, 99);
            x.order(3, one[1], 2, 1, 0);
            Check.due(call + ": next(2, 0)", x.next(2, 0), one[2]);
            Check.due(call + ": next(2, 1)", x.next(2, 1), one[2] == 0 ? 0 : 2);
            Check.due(call + ": orderOf(0, 8)", x.orderOf(0, 8), one[2] + 1);
            x.pass(1);
            Check.due(call + ": woven", x.count(5), one[2] + 1);
        }
        // Of ten orders the last one alone fits.
        WeaveShares ten = new WeaveShares();
        ten.loom(5, 50, 1, 0);
        ten.yarn(5, 1, 99);
        for (int i = 0; i < 10; i++) {
            ten.order(1, i < 9 ? 51 : 50, 2, 1, i);
        }
        Check.due("next(5, 0) of ten", ten.next(5, 0), 9);
        Check.due("pass(2) of ten", ten.pass(2), 1);
        Check.due("woven of ten", ten.weaver(5, 5), 2);
        // What is too wide is left out, whatever the rule.
        for (int rule = 0; rule < 3; rule++) {
            WeaveShares x = new WeaveShares();
            x.set(0, rule);
            x.loom(2, 60, 1, 0);
            x.order(3, 61, 2, 99, 0);
            x.order(3, 50, 2, 1, 9);
            Check.due("next(2, 0) with rule " + rule, x.next(2, 0), 1);
        }
    }

    /** Numbers by the order: 4, 1, 3, 0, 2. */
    private static WeaveShares five(int rule) {
        WeaveShares x = new WeaveShares();
        x.loom(0, 100, 1, 0);
        for (int c = 0; c < 4; c++) {
            x.yarn(0, c, 999);
        }
        x.order(0, 80, 9, 20, 6);
        x.order(1, 79, 9, 21, 5);
        x.order(2, 80, 9, 21, 7);
        x.order(3, 78, 9, 20, 5);
        x.order(0, 77, 9, 19, 4);
        x.set(0, rule);
        return x;
    }

    private static void chosen(int rule, int number) {
        WeaveShares x = five(rule);
        Check.due("next(0, 0) with rule " + rule, x.next(0, 0), number);
        x.pass(1);
        for (int place = 0; place < 5; place++) {
            int good = x.orderOf(place, 0) == number ? 1 : 0;
            Check.due("woven of place " + place + " with rule " + rule, x.wovenBy(place, 0), good);
        }
    }

    private static void firstByTheOrder() {
        chosen(0, 4);
        WeaveShares x = five(0);
        x.cancel(4);
        Check.due("next(0, 0) of two due at 5", x.next(0, 0), 1);
    }

    private static void greatestWidth() {
        chosen(1, 0);
        WeaveShares x = five(1);
        x.loom(0, 79, 1, 0);
        Check.due("next(0, 0) of those that fit", x.next(0, 0), 1);
        x.loom(0, 78, 1, 0);
        Check.due("next(0, 0) of those that fit", x.next(0, 0), 3);
        x.loom(0, 200, 1, 0);
        x.order(0, 200, 1, 1, 9999);
        Check.due("next(0, 0) of 200", x.next(0, 0), 5);
    }

    private static void greatestPrice() {
        chosen(2, 1);
        WeaveShares x = five(2);
        x.loom(0, 78, 1, 0);
        Check.due("next(0, 0) of those that fit", x.next(0, 0), 3);
        x.order(0, 40, 1, 99, 9999);
        Check.due("next(0, 0) of 99", x.next(0, 0), 5);
    }

    private static void ofSeveral() {
        // By the order they are 2, 0 and 1, and all alike otherwise.
        for (int rule = 0; rule < 3; rule++) {
            WeaveShares x = new WeaveShares();
            x.loom(0, 100, 1, 0);
            x.set(0, rule);
            x.order(0, 50, 5, 5, 3);
            x.order(0, 50, 5, 5, 3);
            x.order(0, 50, 5, 5, 2);
            Check.due("next(0, 0) with rule " + rule, x.next(0, 0), 2);
            x.cancel(2);
            Check.due("next(0, 0) of the same due hour with rule " + rule, x.next(0, 0), 0);
            x.cancel(0);
            Check.due("next(0, 0) of one with rule " + rule, x.next(0, 0), 1);
        }
    }

    private static void standsStill() {
        WeaveShares x = new WeaveShares();
        x.loom(0, 50, 9, 0);
        x.loom(4, 60, 9, 0);
        x.store(0, 9999);
        Check.due("pass(3) without orders", x.pass(3), 0);
        Check.due("hours of nothing, each loom by itself", x.count(10), 6);
        x.order(0, 51, 200, 1, 0);
        x.pass(2);
        Check.due("hours of nothing, when one has an order", x.count(10), 8);
        Check.due("woven by 0", x.weaver(0, 5), 0);
        Check.due("woven by 4", x.weaver(4, 5), 18);
        Check.due("next(0, 0)", x.next(0, 0), WeaveShares.NONE);
    }

    private static void asTheSpeedTells() {
        for (int speed = 1; speed <= 9; speed++) {
            WeaveShares x = Made.weaving(speed, 0);
            x.order(0, 50, 200, 1, 0);
            x.pass(1);
            Check.due("woven with speed " + speed, x.weaver(0, 5), speed);
            Check.due("good with speed " + speed, x.orderOf(0, 6), speed);
            Check.due("used with speed " + speed, x.count(7), 5 * speed);
            // Those with faults take their time too.
            WeaveShares y = Made.weaving(speed, 1);
            y.order(0, 50, 200, 1, 0);
            y.pass(1);
            Check.due("faults with speed " + speed, y.weaver(0, 6), speed);
        }
    }

    private static void untilItIsDone() {
        for (int length = 1; length <= 9; length++) {
            WeaveShares x = Made.weaving(9, 0);
            x.order(0, 50, length, 1, 0);
            x.order(0, 50, 200, 1, 1);
            Check.due("pass(1) with a length of " + length, x.pass(1), 1);
            Check.due("woven with a length of " + length, x.count(5), length);
            Check.due("used with a length of " + length, x.count(7), 5 * length);
            Check.due("of the next one with a length of " + length, x.orderOf(0, 6), 0);
            Check.due("hours of nothing", x.count(10), 0);
        }
    }

    private static WeaveShares oneLoom(int share, int store) {
        WeaveShares x = new WeaveShares();
        x.loom(1, 100, 3, 0);
        if (share > 0) {
            x.yarn(1, 2, share);
        }
        if (store > 0) {
            x.store(2, store);
        }
        x.order(2, 75, 50, 10, 9);
        return x;
    }

    /** What an hour does with a share and a store, of which a decimetre takes eight grams. */
    private static void hourOf(int share, int store, int lends, int... want) {
        String call = "an hour with " + share + " and " + store + ", setting 1 as " + lends + ": ";
        WeaveShares x = oneLoom(share, store);
        x.set(1, lends);
        x.pass(1);
        Check.due(call + "woven", x.count(5), want[0]);
        Check.due(call + "share", x.share(1, 2), want[1]);
        Check.due(call + "store", x.share(STORE, 2), want[2]);
        int lent = store - want[2];
        Check.due(call + "debt", x.weaver(1, 3), lent);
        Check.due(call + "borrowed", x.weaver(1, 7), lent);
        Check.due(call + "used", x.count(7), 8 * want[0]);
        Check.due(call + "idle", x.count(10), want[0] == 0 ? 1 : 0);
    }

    private static void fromTheShare() {
        hourOf(24, 0, 0, 3, 0, 0);
        hourOf(24, 99, 1, 3, 0, 99);
        hourOf(25, 99, 1, 3, 1, 99);
        hourOf(8, 0, 1, 1, 0, 0);
        hourOf(9999, 99, 1, 3, 9975, 99);
    }

    private static void allFromTheStore() {
        hourOf(23, 99, 1, 3, 7, 91);
        hourOf(7, 99, 1, 3, 7, 75);
        hourOf(0, 99, 1, 3, 0, 75);
        hourOf(8, 99, 1, 3, 0, 83);
    }

    private static void asADebt() {
        WeaveShares x = oneLoom(0, 99);
        x.pass(1);
        x.pass(1);
        Check.due("debt of two hours", x.weaver(1, 3), 48);
        Check.due("debt of all", x.count(8), 48);
        for (int w = 0; w < 6; w++) {
            Check.due("debt of " + w, x.weaver(w, 3), w == 1 ? 48 : 0);
        }
        // What comes to the share later does not pay the debt.
        x.yarn(1, 2, 99);
        x.pass(1);
        Check.due("debt behind own yarn", x.weaver(1, 3), 48);
        Check.due("store", x.share(STORE, 2), 51);
        x.yarn(0, 2, 99);
        x.give(0, 1, 2, 99);
        x.give(1, 0, 2, 9);
        Check.due("debt behind given yarn", x.weaver(1, 3), 48);
    }

    private static void storeHasEnough() {
        hourOf(0, 24, 1, 3, 0, 0);
        hourOf(0, 23, 1, 2, 0, 7);
        hourOf(0, 8, 1, 1, 0, 0);
        hourOf(0, 7, 1, 0, 0, 7);
        // The share and the store do not add up.
        hourOf(7, 7, 1, 0, 7, 7);
        hourOf(15, 7, 1, 1, 7, 7);
        WeaveShares x = oneLoom(7, 7);
        Check.due("next(1, 1) with 7 and 7", x.next(1, 1), 3);
        x.store(2, 1);
        Check.due("next(1, 1) with 7 and 8", x.next(1, 1), 0);
        // Yarn of another colour is no use.
        WeaveShares y = oneLoom(0, 0);
        y.store(1, 99);
        y.yarn(1, 3, 99);
        Check.due("next(1, 1) with other colours", y.next(1, 1), 3);
        y.pass(1);
        Check.due("woven with other colours", y.count(5), 0);
    }

    private static void storeDoesNotLend() {
        hourOf(0, 99, 0, 0, 0, 99);
        hourOf(7, 99, 0, 0, 7, 99);
        hourOf(23, 99, 0, 2, 7, 99);
        hourOf(24, 99, 0, 3, 0, 99);
        WeaveShares x = oneLoom(7, 99);
        Check.due("next(1, 1)", x.next(1, 1), 0);
        x.set(1, 0);
        Check.due("next(1, 1) when the store does not lend", x.next(1, 1), 3);
    }

    private static void stopsForThisHour() {
        WeaveShares x = oneLoom(8, 0);
        x.pass(3);
        Check.due("woven", x.count(5), 1);
        Check.due("hours of nothing", x.count(10), 2);
        Check.due("good", x.orderOf(0, 6), 1);
        // In a later hour it goes on.
        x.yarn(1, 2, 16);
        x.pass(1);
        Check.due("woven", x.count(5), 3);
        Check.due("hours of nothing", x.count(10), 2);
        // A loom that stops behind some decimetres did not weave nothing.
        WeaveShares y = oneLoom(16, 0);
        y.pass(1);
        Check.due("hours of nothing", y.count(10), 0);
    }

    private static void choosesNoOther() {
        for (int rule = 0; rule < 3; rule++) {
            WeaveShares x = oneLoom(8, 0);
            x.set(0, rule);
            x.yarn(1, 0, 999);
            x.order(0, 40, 50, 9, 10);
            Check.due("next(1, 0) with rule " + rule, x.next(1, 0), 0);
            x.pass(2);
            Check.due("woven with rule " + rule, x.count(5), 1);
            Check.due("of the other one with rule " + rule, x.orderOf(1, 6), 0);
            Check.due("next(1, 0), still, with rule " + rule, x.next(1, 0), 0);
            Check.due("next(1, 1) with rule " + rule, x.next(1, 1), 3);
        }
    }

    private static void eachCounts() {
        for (int care = 0; care <= 3; care++) {
            WeaveShares x = Made.weaving(3, care);
            x.loom(5, 50, 2, care);
            x.store(0, 99);
            x.order(0, 50, 200, 1, 0);
            x.pass(4);
            Check.due("woven by 0, with a care of " + care, x.weaver(0, 5), 12);
            Check.due("woven by 5, with a care of " + care, x.weaver(5, 5), 8);
            Check.due("woven by 1", x.weaver(1, 5), 0);
            Check.due("woven by all", x.count(5), 20);
        }
    }

    private static void careOfZero() {
        WeaveShares x = Made.weaving(9, 0);
        x.order(0, 40, 200, 1, 0);
        x.pass(22);
        Check.due("faults", x.count(6), 0);
        Check.due("good", x.orderOf(0, 6), 198);
    }

    private static void divisibleByTheCare() {
        faultsOf(1, 1, 1);
        faultsOf(1, 200, 200);
        faultsOf(2, 1, 0);
        faultsOf(2, 2, 1);
        faultsOf(2, 3, 1);
        faultsOf(2, 4, 2);
        faultsOf(9, 8, 0);
        faultsOf(9, 9, 1);
        faultsOf(9, 17, 1);
        faultsOf(9, 18, 2);
        faultsOf(98, 97, 0);
        faultsOf(98, 98, 1);
        faultsOf(99, 98, 0);
        faultsOf(99, 99, 1);
        faultsOf(99, 100, 1);
        faultsOf(99, 197, 1);
        faultsOf(99, 198, 2);
    }

    /** One decimetre an hour. */
    private static void faultsOf(int care, int woven, int faults) {
        String call = woven + " with a care of " + care + ": ";
        WeaveShares x = Made.weaving(1, care);
        x.order(0, 40, 200, 1, 0);
        for (int left = woven; left > 0; left -= 99) {
            x.pass(Math.min(left, 99));
        }
        Check.due(call + "woven", x.weaver(0, 5), woven);
        Check.due(call + "faults", x.weaver(0, 6), faults);
        Check.due(call + "faults of all", x.count(6), faults);
        Check.due(call + "good", x.wovenBy(0, 0), woven - faults);
    }

    private static void wovenSoFar() {
        WeaveShares x = Made.weaving(2, 5);
        // Of three orders two each, the fifth of all has the fault.
        x.order(0, 50, 2, 1, 0);
        x.order(0, 50, 2, 1, 0);
        x.order(0, 50, 2, 1, 0);
        Check.due("pass(2)", x.pass(2), 2);
        Check.due("faults of four", x.count(6), 0);
        Check.due("pass(1)", x.pass(1), 0);
        Check.due("faults of six", x.count(6), 1);
        // Also with another loom, and with faults counted in: the seventh and the fourteenth.
        x.loom(0, 60, 1, 7);
        Check.due("pass(1)", x.pass(1), 0);
        Check.due("faults of seven", x.count(6), 2);
        Check.due("pass(1)", x.pass(1), 1);
        x.order(0, 50, 9, 1, 0);
        x.pass(5);
        Check.due("faults of thirteen", x.count(6), 2);
        x.pass(1);
        Check.due("faults of fourteen", x.count(6), 3);
        // Each weaver by itself: 3 has woven none so far.
        x.loom(3, 60, 1, 2);
        x.yarn(3, 0, 99);
        x.pass(1);
        Check.due("faults of 3 in its first", x.weaver(3, 6), 0);
    }

    private static void yarnIsLost() {
        WeaveShares x = oneLoom(8, 99);
        x.loom(1, 100, 3, 1);
        x.pass(1);
        Check.due("share", x.share(1, 2), 0);
        Check.due("store", x.share(STORE, 2), 83);
        Check.due("debt", x.weaver(1, 3), 16);
        Check.due("borrowed", x.weaver(1, 7), 16);
        Check.due("used", x.count(7), 24);
        Check.due("woven", x.weaver(1, 5), 3);
        Check.due("faults", x.weaver(1, 6), 3);
        Check.due("good", x.orderOf(0, 6), 0);
        Check.due("good by 1", x.wovenBy(0, 1), 0);
        Check.due("rest", x.orderOf(0, 7), 400);
        Check.due("hours of nothing", x.count(10), 0);
    }
}
