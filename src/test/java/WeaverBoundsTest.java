/** Sentences with bounds: "Weavers, yarn", and promises 1 to 5. */
public final class WeaverBoundsTest {
    private static final int[] NO_GRAMS = Made.outside(1, 9999);

    private WeaverBoundsTest() {
    }

    public static void main(String[] args) {
        Check.sentence("Creates weavers without looms and yarn, with an empty buffer.",
                WeaverBoundsTest::newObject);
        Check.sentence("There are 6 weavers, numbered from 0.", WeaverBoundsTest::sixWeavers);
        Check.sentence("A weaver has a loom or none, at first none", WeaverBoundsTest::noLoomAtFirst);
        Check.sentence("a width, 40 to 200", WeaverBoundsTest::loomWidth);
        Check.sentence("a speed, 1 to 9 decimetres an hour", WeaverBoundsTest::loomSpeed);
        Check.sentence("a care, 0 to 99", WeaverBoundsTest::loomCare);
        Check.sentence("There are 4 colours, numbered from 0.", WeaverBoundsTest::fourColours);
        Check.sentence("a share of yarn of each colour, 0 to 9999, at first 0",
                WeaverBoundsTest::shareBounds);
        Check.sentence("a debt, in grams, at first 0", WeaverBoundsTest::debtAtFirst);
        Check.sentence("what was earned so far", WeaverBoundsTest::earnedAtFirst);
        Check.sentence("The store has yarn of each colour, 0 to 99999, at first 0.",
                WeaverBoundsTest::storeBounds);
        noSuchWeaver();
        noSuchColour();
        loomSentences();
        yarnSentences();
        Check.end("WeaverBoundsTest");
    }

    private static void loomSentences() {
        Check.sentence("Gives a weaver a loom, in place of the one that there was.",
                WeaverBoundsTest::loomReplaced);
        Check.sentence("or 0: no loom (speed and care do not matter then)", WeaverBoundsTest::loomGone);
        Check.sentence("Returns the previous width, 0 without a loom.",
                WeaverBoundsTest::previousWidth);
        Check.sentence("if width is out of range, or, with a loom, speed or care is",
                WeaverBoundsTest::loomAllWrong);
    }

    private static void yarnSentences() {
        Check.sentence("Adds yarn to the share of a weaver, or, below 0, takes some of it.",
                WeaverBoundsTest::yarnAddsAndTakes);
        Check.sentence("`grams`: -9999 to 9999", WeaverBoundsTest::yarnGrams);
        Check.sentence("if the share would be below 0", WeaverBoundsTest::yarnBelowZero);
        Check.sentence("or above 9999", WeaverBoundsTest::yarnAboveMost);
        Check.sentence("store: `grams`: 1 to 9999", WeaverBoundsTest::storeGrams);
        Check.sentence("if it would be above 99999", WeaverBoundsTest::storeAboveMost);
        Check.sentence("give: `grams`: 1 to 9999", WeaverBoundsTest::giveGrams);
        Check.sentence("if both weavers are the same", WeaverBoundsTest::giveToItself);
        Check.sentence("if a share would be below 0", WeaverBoundsTest::giveBelowZero);
        Check.sentence("give: or above 9999", WeaverBoundsTest::giveAboveMost);
        Check.sentence("Returns the share of the other one then.", WeaverBoundsTest::giveAnswers);
    }

    private static void newObject() {
        WeaveShares x = new WeaveShares();
        for (int w = 0; w < 6; w++) {
            for (int what = 0; what < 8; what++) {
                Check.due("weaver(" + w + ", " + what + ")", x.weaver(w, what), 0);
            }
            for (int c = 0; c < 4; c++) {
                Check.due("share(" + w + ", " + c + ")", x.share(w, c), 0);
            }
        }
        for (int what = 0; what < 12; what++) {
            Check.due("count(" + what + ")", x.count(what), 0);
        }
        Check.due("firstError()", x.firstError(), 0);
        Check.due("clearBuffer()", x.clearBuffer(), 0);
        Check.due("append(33)", x.append(33), 1);
        // What is done with one object does not show at another one, old or new.
        WeaveShares y = new WeaveShares();
        long hash = y.digest();
        Made.busy();
        Made.full();
        Made.buffered("1x40c0").takeAll();
        Check.that("an old object is as it was", hash == y.digest());
        Check.that("a new object is new", hash == new WeaveShares().digest());
    }

    private static void sixWeavers() {
        for (int w : new int[] {0, 5}) {
            WeaveShares x = new WeaveShares();
            Check.due("loom of " + w, x.loom(w, 100, 2, 0), 0);
            Check.due("yarn of " + w, x.yarn(w, 1, 30), 30);
            Check.due("give by " + w, x.give(w, 5 - w, 1, 10), 10);
            Check.due("give to " + w, x.give(5 - w, w, 1, 10), 30);
            x.order(1, 100, 5, 5, 5);
            Check.due("next(" + w + ", 0)", x.next(w, 0), 0);
            Check.due("next(" + w + ", 1)", x.next(w, 1), 0);
            x.pass(1);
            Check.due("wovenBy(0, " + w + ")", x.wovenBy(0, w), 2);
            Check.due("weaver(" + w + ", 5)", x.weaver(w, 5), 2);
            Check.due("share(" + w + ", 1)", x.share(w, 1), 10);
            Check.due("dueNow(0, " + w + ")", x.dueNow(0, w), 10);
        }
    }

    private static void noWeaver(String call, Check.OnWith body) {
        Check.sentence(call + ": if there is no such weaver",
                () -> Check.indexEach(call, Made::busy, Made.NO_WEAVER, body));
    }

    private static void noSuchWeaver() {
        noWeaver("loom", (x, w) -> x.loom(w, 100, 2, 0));
        noWeaver("loom of none", (x, w) -> x.loom(w, 0, 0, 0));
        noWeaver("yarn", (x, w) -> x.yarn(w, 0, 1));
        noWeaver("give by", (x, w) -> x.give(w, 0, 0, 1));
        noWeaver("give to", (x, w) -> x.give(0, w, 0, 1));
        noWeaver("weaver", (x, w) -> x.weaver(w, 0));
        noWeaver("wovenBy", (x, w) -> x.wovenBy(0, w));
        noWeaver("next", (x, w) -> x.next(w, 0));
        noWeaver("dueNow", (x, w) -> x.dueNow(0, w));
        // -1 is NONE, which names the store.
        Check.sentence("share: if there is no such weaver", () -> Check.indexEach("share", Made::busy,
                new int[] {Integer.MIN_VALUE, -2, 6, Integer.MAX_VALUE}, (x, w) -> x.share(w, 0)));
    }

    private static void noLoomAtFirst() {
        WeaveShares x = new WeaveShares();
        x.order(0, 40, 1, 1, 0);
        x.store(0, 99);
        for (int w = 0; w < 6; w++) {
            Check.due("width of " + w, x.weaver(w, 0), 0);
            Check.due("speed of " + w, x.weaver(w, 1), 0);
            Check.due("care of " + w, x.weaver(w, 2), 0);
            Check.due("next(" + w + ", 0)", x.next(w, 0), WeaveShares.NONE);
            Check.due("next(" + w + ", 1)", x.next(w, 1), 1);
        }
        Check.due("looms", x.count(9), 0);
        Check.due("pass(99)", x.pass(99), 0);
        Check.due("hours in which looms wove nothing", x.count(10), 0);
    }

    private static void loomWidth() {
        for (int width : new int[] {40, 41, 199, 200}) {
            WeaveShares x = new WeaveShares();
            Check.due("loom of width " + width, x.loom(3, width, 4, 5), 0);
            Check.due("its width", x.weaver(3, 0), width);
            Check.due("its speed", x.weaver(3, 1), 4);
            Check.due("its care", x.weaver(3, 2), 5);
        }
        Check.argumentEach("loom of width", Made::busy, Made.outside(40, 200),
                (x, width) -> x.loom(3, width, 4, 5));
        // Below 40, 0 alone is taken.
        Check.argumentEach("loom of width", Made::busy, new int[] {-40, -1, 1, 2, 20},
                (x, width) -> x.loom(3, width, 4, 5));
    }

    private static void loomSpeed() {
        for (int speed : new int[] {1, 2, 8, 9}) {
            WeaveShares x = new WeaveShares();
            Check.due("loom of speed " + speed, x.loom(3, 50, speed, 0), 0);
            Check.due("its speed", x.weaver(3, 1), speed);
            x.store(0, 999);
            x.order(0, 50, 100, 1, 0);
            x.pass(1);
            Check.due("woven in an hour with speed " + speed, x.weaver(3, 5), speed);
        }
        Check.argumentEach("loom of speed", Made::busy, Made.outside(1, 9),
                (x, speed) -> x.loom(3, 50, speed, 5));
        Check.argumentEach("loom of speed", Made::busy, new int[] {-1, -9},
                (x, speed) -> x.loom(3, 50, speed, 5));
    }

    private static void loomCare() {
        for (int care : new int[] {0, 1, 98, 99}) {
            WeaveShares x = new WeaveShares();
            Check.due("loom of care " + care, x.loom(3, 50, 4, care), 0);
            Check.due("its care", x.weaver(3, 2), care);
        }
        Check.argumentEach("loom of care", Made::busy, Made.outside(0, 99),
                (x, care) -> x.loom(3, 50, 4, care));
    }

    private static void fourColours() {
        for (int c : new int[] {0, 3}) {
            WeaveShares x = new WeaveShares();
            Check.due("yarn of " + c, x.yarn(2, c, 30), 30);
            Check.due("give of " + c, x.give(2, 4, c, 20), 20);
            Check.due("store of " + c, x.store(c, 50), 50);
            Check.due("share(4, " + c + ")", x.share(4, c), 20);
            Check.due("share(NONE, " + c + ")", x.share(WeaveShares.NONE, c), 50);
            Check.due("order of " + c, x.order(c, 50, 5, 5, 5), 0);
            Check.due("orderOf(0, 1)", x.orderOf(0, 1), c);
            x.loom(4, 50, 9, 0);
            Check.due("pass(1)", x.pass(1), 1);
            Check.due("share(4, " + c + ") then", x.share(4, c), 0);
            Check.due("share(NONE, " + c + ") then", x.share(WeaveShares.NONE, c), 45);
            for (int other = 0; other < 4; other++) {
                int left = other == c ? 10 : 0;
                Check.due("share(2, " + other + ")", x.share(2, other), left);
            }
        }
    }

    private static void noColour(String call, Check.OnWith body) {
        Check.sentence(call + ": if there is no such colour",
                () -> Check.indexEach(call, Made::busy, Made.NO_COLOUR, body));
    }

    private static void noSuchColour() {
        noColour("yarn", (x, c) -> x.yarn(0, c, 1));
        noColour("store", (x, c) -> x.store(c, 1));
        noColour("give", (x, c) -> x.give(0, 1, c, 1));
        noColour("order", (x, c) -> x.order(c, 50, 5, 5, 5));
        noColour("share", (x, c) -> x.share(0, c));
        noColour("share of the store", (x, c) -> x.share(WeaveShares.NONE, c));
    }

    private static void shareBounds() {
        WeaveShares x = new WeaveShares();
        for (int w = 0; w < 6; w++) {
            for (int c = 0; c < 4; c++) {
                Check.due("share(" + w + ", " + c + ")", x.share(w, c), 0);
                Check.due("yarn(" + w + ", " + c + ", 9999)", x.yarn(w, c, 9999), 9999);
                Check.due("share then", x.share(w, c), 9999);
            }
        }
        for (int w = 0; w < 6; w++) {
            for (int c = 0; c < 4; c++) {
                Check.due("yarn(" + w + ", " + c + ", -9999)", x.yarn(w, c, -9999), 0);
            }
        }
    }

    private static void debtAtFirst() {
        WeaveShares x = new WeaveShares();
        for (int w = 0; w < 6; w++) {
            Check.due("debt of " + w, x.weaver(w, 3), 0);
            Check.due("borrowed by " + w, x.weaver(w, 7), 0);
        }
        Check.due("debt of all", x.count(8), 0);
    }

    private static void earnedAtFirst() {
        WeaveShares x = new WeaveShares();
        for (int w = 0; w < 6; w++) {
            Check.due("earned by " + w, x.weaver(w, 4), 0);
        }
        Check.due("evenness()", x.evenness(), 1.0);
    }

    private static WeaveShares stocked(int grams) {
        WeaveShares x = new WeaveShares();
        for (int i = grams; i > 0; i -= 9999) {
            x.store(2, Math.min(i, 9999));
        }
        return x;
    }

    private static void storeBounds() {
        WeaveShares x = new WeaveShares();
        for (int c = 0; c < 4; c++) {
            Check.due("share(NONE, " + c + ")", x.share(WeaveShares.NONE, c), 0);
        }
        WeaveShares y = stocked(99999);
        for (int c = 0; c < 4; c++) {
            Check.due("a full store of 2: colour " + c, y.share(WeaveShares.NONE, c),
                    c == 2 ? 99999 : 0);
        }
        Check.due("store(3, 1), of another colour", y.store(3, 1), 1);
    }

    private static void loomReplaced() {
        WeaveShares x = Made.weaving(5, 2);
        x.order(0, 50, 3, 4, 9);
        x.pass(1);
        Check.due("loom(0, 60, 7, 8)", x.loom(0, 60, 7, 8), 200);
        int[] want = {60, 7, 8, 0, 12, 5, 2, 0};
        for (int what = 0; what < 8; what++) {
            Check.due("weaver(0, " + what + ")", x.weaver(0, what), want[what]);
        }
        Check.due("share", x.share(0, 0), 9999 - 25);
        Check.due("looms", x.count(9), 1);
        Check.due("loom(0, 60, 1, 0), as wide", x.loom(0, 60, 1, 0), 60);
        Check.due("its speed", x.weaver(0, 1), 1);
        Check.due("its care", x.weaver(0, 2), 0);
    }

    private static void loomGone() {
        int[][] odd = {{0, 0}, {0, -1}, {10, 100}, {-1, 5}, {5, 100},
            {Integer.MIN_VALUE, Integer.MAX_VALUE}, {Integer.MAX_VALUE, Integer.MIN_VALUE}};
        for (int[] one : odd) {
            String call = "loom(0, 0, " + one[0] + ", " + one[1] + ")";
            WeaveShares x = Made.weaving(5, 2);
            x.order(0, 50, 3, 4, 9);
            x.order(0, 50, 3, 4, 9);
            x.pass(1);
            Check.due(call, x.loom(0, 0, one[0], one[1]), 200);
            int[] want = {0, 0, 0, 0, 12, 5, 2, 0};
            for (int what = 0; what < 8; what++) {
                Check.due(call + ", then weaver(0, " + what + ")", x.weaver(0, what), want[what]);
            }
            Check.due(call + ", then the share", x.share(0, 0), 9999 - 25);
            Check.due(call + ", then looms", x.count(9), 0);
            Check.due(call + ", then next(0, 1)", x.next(0, 1), 1);
            Check.due(call + ", then pass(9)", x.pass(9), 0);
            Check.due(call + ", then hours of nothing", x.count(10), 0);
            Check.due(call + ", again", x.loom(0, 0, one[0], one[1]), 0);
        }
    }

    private static void previousWidth() {
        WeaveShares x = new WeaveShares();
        int[] widths = {40, 200, 0, 0, 199, 41, 41};
        int previous = 0;
        for (int width : widths) {
            Check.due("loom(5, " + width + ", 1, 0)", x.loom(5, width, 1, 0), previous);
            previous = width;
        }
    }

    private static void loomAllWrong() {
        Check.refusesArgument("loom(0, 39, 0, -1)", Made::busy, x -> x.loom(0, 39, 0, -1));
        Check.refusesArgument("loom(0, 201, 10, 100)", Made::busy, x -> x.loom(0, 201, 10, 100));
        Check.refusesArgument("loom(0, 40, 0, 100)", Made::busy, x -> x.loom(0, 40, 0, 100));
        Check.refusesArgument("loom(0, 200, 10, 99)", Made::busy, x -> x.loom(0, 200, 10, 99));
        Check.refusesArgument("loom(0, 40, 9, -1)", Made::busy, x -> x.loom(0, 40, 9, -1));
    }

    private static void yarnAddsAndTakes() {
        WeaveShares x = new WeaveShares();
        Check.due("yarn(5, 3, 17)", x.yarn(5, 3, 17), 17);
        Check.due("yarn(5, 3, -7)", x.yarn(5, 3, -7), 10);
        Check.due("yarn(5, 3, 0)", x.yarn(5, 3, 0), 10);
        Check.due("yarn(5, 3, -10)", x.yarn(5, 3, -10), 0);
        Check.due("yarn(5, 3, 0) of nothing", x.yarn(5, 3, 0), 0);
        Check.due("store", x.share(WeaveShares.NONE, 3), 0);
        Check.due("debt", x.weaver(5, 3), 0);
    }

    private static void yarnGrams() {
        WeaveShares x = new WeaveShares();
        Check.due("yarn(0, 0, 9999)", x.yarn(0, 0, 9999), 9999);
        Check.due("yarn(0, 0, -9999)", x.yarn(0, 0, -9999), 0);
        Check.argumentEach("yarn of grams", Made::busy, Made.outside(-9999, 9999),
                (y, grams) -> y.yarn(1, 0, grams));
    }

    private static WeaveShares sharing(int grams) {
        WeaveShares x = new WeaveShares();
        x.yarn(1, 2, grams);
        x.yarn(4, 2, 9999 - grams);
        return x;
    }

    private static void yarnBelowZero() {
        Check.due("yarn(1, 2, -5) of 5", sharing(5).yarn(1, 2, -5), 0);
        Check.refusesState("yarn(1, 2, -6) of 5", () -> sharing(5), x -> x.yarn(1, 2, -6));
        Check.refusesState("yarn(1, 2, -1) of 0", () -> sharing(0), x -> x.yarn(1, 2, -1));
        Check.refusesState("yarn(1, 2, -9999) of 9998", () -> sharing(9998),
                x -> x.yarn(1, 2, -9999));
    }

    private static void yarnAboveMost() {
        Check.due("yarn(1, 2, 1) of 9998", sharing(9998).yarn(1, 2, 1), 9999);
        Check.refusesState("yarn(1, 2, 2) of 9998", () -> sharing(9998), x -> x.yarn(1, 2, 2));
        Check.refusesState("yarn(1, 2, 1) of 9999", () -> sharing(9999), x -> x.yarn(1, 2, 1));
        Check.refusesState("yarn(1, 2, 9999) of 1", () -> sharing(1), x -> x.yarn(1, 2, 9999));
    }

    private static void storeGrams() {
        WeaveShares x = new WeaveShares();
        Check.due("store(0, 1)", x.store(0, 1), 1);
        Check.due("store(0, 9999)", x.store(0, 9999), 10000);
        Check.argumentEach("store of grams", Made::busy, NO_GRAMS, (y, grams) -> y.store(0, grams));
        Check.argumentEach("store of grams", Made::busy, new int[] {-1, -9999},
                (y, grams) -> y.store(0, grams));
    }

    private static void storeAboveMost() {
        Check.due("store(2, 1) of 99998", stocked(99998).store(2, 1), 99999);
        Check.due("store(2, 9999) of 90000", stocked(90000).store(2, 9999), 99999);
        Check.refusesState("store(2, 1) of 99999", () -> stocked(99999), x -> x.store(2, 1));
        Check.refusesState("store(2, 2) of 99998", () -> stocked(99998), x -> x.store(2, 2));
        Check.refusesState("store(2, 9999) of 90001", () -> stocked(90001), x -> x.store(2, 9999));
        Check.refusesState("store(2, 9999) of 99999", () -> stocked(99999), x -> x.store(2, 9999));
    }

    private static void giveGrams() {
        WeaveShares x = sharing(9999);
        Check.due("give(1, 0, 2, 1)", x.give(1, 0, 2, 1), 1);
        x.yarn(1, 2, 1);
        Check.due("give(1, 5, 2, 9999)", x.give(1, 5, 2, 9999), 9999);
        Check.due("share(1, 2)", x.share(1, 2), 0);
        Check.argumentEach("give of grams", () -> sharing(5000), NO_GRAMS,
                (y, grams) -> y.give(1, 0, 2, grams));
        Check.argumentEach("give of grams", () -> sharing(5000), new int[] {-1, -9999},
                (y, grams) -> y.give(1, 0, 2, grams));
    }

    private static void giveToItself() {
        for (int w = 0; w < 6; w++) {
            int weaver = w;
            Check.refusesArgument("give(" + w + ", " + w + ", 0, 1)", () -> {
                WeaveShares x = new WeaveShares();
                x.yarn(weaver, 0, 100);
                return x;
            }, x -> x.give(weaver, weaver, 0, 1));
        }
    }

    private static void giveBelowZero() {
        WeaveShares x = sharing(5);
        Check.due("give(1, 3, 2, 5) of 5", x.give(1, 3, 2, 5), 5);
        Check.due("share(1, 2)", x.share(1, 2), 0);
        Check.refusesState("give(1, 3, 2, 6) of 5", () -> sharing(5), y -> y.give(1, 3, 2, 6));
        Check.refusesState("give(1, 3, 2, 1) of 0", () -> sharing(0), y -> y.give(1, 3, 2, 1));
        Check.refusesState("give(1, 3, 2, 9999) of 9998", () -> sharing(9998),
                y -> y.give(1, 3, 2, 9999));
        // Of another colour there is none.
        Check.refusesState("give(1, 3, 1, 1)", () -> sharing(5), y -> y.give(1, 3, 1, 1));
    }

    private static void giveAboveMost() {
        WeaveShares x = sharing(5);
        Check.due("give(1, 4, 2, 5) to 9994", x.give(1, 4, 2, 5), 9999);
        WeaveShares y = sharing(5);
        y.yarn(4, 2, 4);
        Check.due("give(1, 4, 2, 1) to 9998", y.give(1, 4, 2, 1), 9999);
        Check.refusesState("give(1, 4, 2, 1) to 9999", () -> {
            WeaveShares z = sharing(5);
            z.give(1, 4, 2, 5);
            z.yarn(1, 2, 5);
            return z;
        }, z -> z.give(1, 4, 2, 1));
        Check.refusesState("give(1, 4, 2, 6) to 9994", () -> {
            WeaveShares z = sharing(5);
            z.yarn(1, 2, 9994);
            return z;
        }, z -> z.give(1, 4, 2, 6));
        Check.refusesState("give(4, 1, 2, 9999) to 1", () -> {
            WeaveShares z = sharing(1);
            z.yarn(4, 2, 1);
            return z;
        }, z -> z.give(4, 1, 2, 9999));
    }

    private static void giveAnswers() {
        WeaveShares x = new WeaveShares();
        x.yarn(0, 1, 100);
        x.yarn(5, 1, 7);
        Check.due("give(0, 5, 1, 30)", x.give(0, 5, 1, 30), 37);
        Check.due("share(0, 1)", x.share(0, 1), 70);
        Check.due("share(5, 1)", x.share(5, 1), 37);
        Check.due("give(5, 0, 1, 37)", x.give(5, 0, 1, 37), 107);
        Check.due("share(5, 1)", x.share(5, 1), 0);
        for (int c = 0; c < 4; c++) {
            Check.due("share(0, " + c + ")", x.share(0, c), c == 1 ? 107 : 0);
        }
        Check.due("debt", x.count(8), 0);
    }
}
