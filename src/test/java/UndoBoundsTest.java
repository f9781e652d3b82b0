/** Sentences with bounds: "Undo", "Exceptions", promise 14, and the first 512 calls. */
public final class UndoBoundsTest {
    private static final int STORE = WeaveShares.NONE;

    private UndoBoundsTest() {
    }

    public static void main(String[] args) {
        undo();
        exceptions();
        Check.end("UndoBoundsTest");
    }

    private static void undo() {
        Check.sentence("Each method that is marked \"undoable\" and does not throw an exception saves"
                + " the state from before it", UndoBoundsTest::eachUndoable);
        Check.sentence("(also if it changes nothing)", UndoBoundsTest::savesThoughNothingChanges);
        Check.sentence("Undoable.", UndoBoundsTest::othersSaveNothing);
        Check.sentence("and does not throw an exception", UndoBoundsTest::refusedSaveNothing);
        Check.sentence("all, also what is counted so far", UndoBoundsTest::allIsRestored);
        Check.sentence("all, also what is counted so far", UndoBoundsTest::doneOrdersComeBack);
        Check.sentence("but the buffer", UndoBoundsTest::bufferStays);
        Check.sentence("and the saved states", UndoBoundsTest::undoIsNotUndone);
        Check.sentence("At most 6 states are saved", UndoBoundsTest::atMostSix);
        Check.sentence("the oldest one is dropped first", UndoBoundsTest::oldestIsDropped);
        Check.sentence("Undoable, as one call. (pass)", UndoBoundsTest::passAsOneCall);
        Check.sentence("Undoable, as one call. (takeAll)", UndoBoundsTest::takeAllAsOneCall);
        Check.sentence("Restores the latest saved state, and drops it.", UndoBoundsTest::latest);
        Check.sentence("Returns how many saved states are left.", UndoBoundsTest::howManyAreLeft);
        Check.sentence("undo: if there is none", UndoBoundsTest::noneIsSaved);
    }

    private static void exceptions() {
        Check.sentence("A call that throws an exception changes nothing.",
                UndoBoundsTest::refusedChangeNothing);
        Check.sentence("the one that is named first in the throws clause is thrown",
                UndoBoundsTest::indexFirst);
        Check.sentence("the one that is named first in the throws clause is thrown",
                UndoBoundsTest::argumentFirst);
        Check.sentence("An object is used for at most 512 calls after it has been made",
                UndoBoundsTest::manyOrders);
        Check.sentence("An object is used for at most 512 calls after it has been made",
                UndoBoundsTest::manySaved);
        Check.sentence("An object is used for at most 512 calls after it has been made",
                UndoBoundsTest::manyTexts);
        Check.sentence("An object is used for at most 512 calls after it has been made",
                UndoBoundsTest::manyLooks);
    }

    private static final String[] NAMES = {"loom", "loom of none", "yarn", "yarn taken", "store",
        "give", "order", "cancel", "set 0", "set 1", "set 2", "set 3", "pass", "pass 9", "takeAll"};

    private static long undoable(WeaveShares x, int kind) {
        switch (kind) {
            case 0:
                return x.loom(1, 77, 6, 5);
            case 1:
                return x.loom(0, 0, 0, 0);
            case 2:
                return x.yarn(4, 3, 9);
            case 3:
                return x.yarn(4, 0, -1);
            case 4:
                return x.store(2, 9);
            case 5:
                return x.give(4, 2, 0, 1);
            case 6:
                return x.order(2, 44, 3, 2, 1);
            case 7:
                return x.cancel(0);
            case 8:
                return x.set(0, 2);
            case 9:
                return x.set(1, 0);
            case 10:
                return x.set(2, 50);
            case 11:
                return x.set(3, 0);
            case 12:
                return x.pass(1);
            case 13:
                return x.pass(9);
            default:
                return x.takeAll();
        }
    }

    private static final int[] ANSWERS = {0, 90, 9, 21, 9, 1, 3, 9, 1, 1, 5, 1, 0, 0, 5};

    /** Six saved states, and two orders in the buffer. */
    private static WeaveShares ready() {
        WeaveShares x = LookTest.busy();
        x.yarn(4, 0, 1);
        Check.append(x, "9x50c1@3;8x60c2$3");
        return x;
    }

    /** The same, with two saved states. */
    private static WeaveShares readyWithTwo() {
        WeaveShares x = ready();
        for (int i = 0; i < 6; i++) {
            x.undo();
        }
        x.yarn(4, 0, 2);
        x.pass(2);
        return x;
    }

    private static void eachUndoable() {
        for (int kind = 0; kind < NAMES.length; kind++) {
            int asked = kind;
            Check.undoes(NAMES[kind] + ", with six saved states", UndoBoundsTest::ready,
                    x -> undoable(x, asked), ANSWERS[kind]);
            // What was saved before is there still.
            WeaveShares x = readyWithTwo();
            undoable(x, kind);
            Check.due(NAMES[kind] + ", then count(11)", x.count(11), 3);
            Check.due(NAMES[kind] + ", then undo()", x.undo(), 2);
            x.clearBuffer();
            WeaveShares y = readyWithTwo();
            y.clearBuffer();
            Check.alike(NAMES[kind] + " and undo()", x, y);
        }
    }

    private static void savesThoughNothingChanges() {
        WeaveShares x = new WeaveShares();
        x.loom(0, 50, 5, 5);
        long before = x.digest();
        Check.due("the same loom", x.loom(0, 50, 5, 5), 50);
        Check.due("saved states", x.count(11), 2);
        Check.due("no loom instead of none", x.loom(1, 0, 5, 5), 0);
        Check.due("saved states", x.count(11), 3);
        Check.due("yarn of 0", x.yarn(0, 0, 0), 0);
        Check.due("saved states", x.count(11), 4);
        Check.due("set to what it is", x.set(2, 5), 5);
        Check.due("saved states", x.count(11), 5);
        for (int i = 4; i >= 1; i--) {
            Check.due("undo()", x.undo(), i);
        }
        Check.that("nothing had changed", before == x.digest());
        Check.due("undo() of the first loom", x.undo(), 0);
        Check.due("no loom", x.weaver(0, 0), 0);
    }

    private static void othersSaveNothing() {
        WeaveShares x = new WeaveShares();
        x.order(0, 50, 5, 5, 5);
        x.append('1');
        x.firstError();
        x.clearBuffer();
        x.weaver(0, 0);
        x.share(0, 0);
        x.orderOf(0, 0);
        x.wovenBy(0, 0);
        x.next(0, 0);
        x.count(0);
        x.setting(0);
        x.ifPassed(200, 0);
        x.doneIn(0);
        x.bestRule(99);
        x.dueNow(0, 0);
        x.evenness();
        x.digest();
        Check.due("saved states", x.count(11), 1);
        Check.due("undo()", x.undo(), 0);
        Check.due("orders", x.count(1), 0);
    }

    private static final String[] REFUSED = {"loom", "loom of 6", "yarn", "yarn of 6", "yarn too much",
        "store", "store of 4", "store too much", "give", "give of 6", "give too much", "order",
        "order of 4", "cancel", "set", "set 4", "pass", "takeAll", "append", "weaver", "weaver 6",
        "share", "orderOf", "wovenBy", "wovenBy 6", "next", "next of 6", "count", "setting", "ifPassed",
        "ifPassed 5", "doneIn", "bestRule", "dueNow", "dueNow of 6"};

    private static void refused(WeaveShares x, int kind) {
        try {
            if (kind < 18) {
                refusedChange(x, kind);
            } else {
                refusedLook(x, kind);
            }
            Check.that(REFUSED[kind] + " was not refused", false);
        } catch (IndexOutOfBoundsException | IllegalArgumentException | IllegalStateException e) {
            Check.that(REFUSED[kind] + " was refused", true);
        }
    }

    private static long refusedChange(WeaveShares x, int kind) {
        switch (kind) {
            case 0:
                return x.loom(0, 39, 5, 5);
            case 1:
                return x.loom(6, 50, 5, 5);
            case 2:
                return x.yarn(0, 0, 10000);
            case 3:
                return x.yarn(6, 0, 1);
            case 4:
                return x.yarn(0, 0, 9999);
            case 5:
                return x.store(0, 0);
            case 6:
                return x.store(4, 1);
            case 7:
                return x.store(3, 9999);
            case 8:
                return x.give(0, 0, 0, 1);
            case 9:
                return x.give(0, 6, 0, 1);
            case 10:
                return x.give(1, 0, 0, 1);
            case 11:
                return x.order(0, 50, 201, 5, 5);
            case 12:
                return x.order(4, 50, 20, 5, 5);
            case 13:
                return x.cancel(99);
            case 14:
                return x.set(1, 2);
            case 15:
                return x.set(4, 0);
            case 16:
                return x.pass(100);
            default:
                return x.takeAll();
        }
    }

    private static long refusedLook(WeaveShares x, int kind) {
        switch (kind) {
            case 18:
                return x.append(32);
            case 19:
                return x.weaver(0, 8);
            case 20:
                return x.weaver(6, 0);
            case 21:
                return x.share(-2, 0);
            case 22:
                return x.orderOf(0, 9);
            case 23:
                return x.wovenBy(-1, 0);
            case 24:
                return x.wovenBy(0, 6);
            case 25:
                return x.next(0, 2);
            case 26:
                return x.next(6, 0);
            case 27:
                return x.count(12);
            case 28:
                return x.setting(4);
            case 29:
                return x.ifPassed(201, 0);
            case 30:
                return x.ifPassed(1, 5);
            case 31:
                return x.doneIn(99);
            case 32:
                return x.bestRule(100);
            case 33:
                return x.dueNow(99, 0);
            default:
                return x.dueNow(0, 6);
        }
    }

    /** Six saved states, a full store of 3, some yarn of 0, and a wrong text in the buffer. */
    private static WeaveShares refusing() {
        WeaveShares x = new WeaveShares();
        x.loom(0, 60, 2, 5);
        x.yarn(0, 0, 5);
        x.store(0, 999);
        for (int i = 0; i < 10; i++) {
            x.store(3, 9999);
        }
        x.store(3, 9);
        x.order(0, 50, 50, 5, 5);
        x.order(0, 60, 50, 5, 1);
        x.pass(2);
        x.set(0, 1);
        x.yarn(0, 1, 7);
        x.set(2, 7);
        x.pass(3);
        x.set(0, 0);
        Check.append(x, "1x40c0;9");
        return x;
    }

    private static WeaveShares refusingWithTwo() {
        WeaveShares x = refusing();
        for (int i = 0; i < 4; i++) {
            x.undo();
        }
        return x;
    }

    private static void refusedSaveNothing() {
        WeaveShares x = refusingWithTwo();
        WeaveShares y = refusing();
        for (int kind = 0; kind < REFUSED.length; kind++) {
            refused(x, kind);
            Check.due("saved states behind " + REFUSED[kind], x.count(11), 2);
            refused(y, kind);
            Check.due("saved states behind " + REFUSED[kind], y.count(11), 6);
        }
        Check.alike("all refused calls, with two saved states", x, refusingWithTwo());
        Check.alike("all refused calls, with six saved states", y, refusing());
    }

    private static void refusedChangeNothing() {
        for (int kind = 0; kind < REFUSED.length; kind++) {
            WeaveShares x = refusing();
            refused(x, kind);
            Check.alike(REFUSED[kind], x, refusing());
            WeaveShares y = refusing();
            refused(y, kind);
            Check.sameNumber(REFUSED[kind], y, refusing());
        }
        Check.refusesState("undo() of a new object", WeaveShares::new, WeaveShares::undo);
        Check.refusesState("order() of an eleventh", Made::full, x -> x.order(0, 50, 5, 5, 5));
    }

    private static void allIsRestored() {
        Check.undoes("pass(99), of looms, orders, faults, debts and pay", UndoBoundsTest::rich,
                x -> x.pass(99), 4);
        Check.undoes("pass(1)", UndoBoundsTest::rich, x -> x.pass(1), 0);
        Check.undoes("pass(1), which ends orders", UndoBoundsTest::richThen, x -> x.pass(1), 2);
        Check.undoes("cancel(2), of what is woven", UndoBoundsTest::richThen, x -> x.cancel(2), 22);
        WeaveShares x = rich();
        x.pass(99);
        Check.due("done", x.count(2), 4);
        Check.due("late", x.count(3), 4);
        Check.due("undo()", x.undo(), 5);
        for (int what : new int[] {0, 2, 3, 4, 5, 6, 7, 8, 10}) {
            Check.due("count(" + what + ") behind undo", x.count(what), 0);
        }
        Check.due("orders behind undo", x.count(1), 4);
        Check.due("share behind undo", x.share(1, 1), 80);
        Check.due("store behind undo", x.share(STORE, 0), 900);
    }

    /** All six weave, by their own yarn or the store's. */
    private static WeaveShares rich() {
        WeaveShares x = new WeaveShares();
        for (int w = 0; w < 6; w++) {
            x.loom(w, w < 3 ? 60 : 50, 1 + w % 3, 2 + w);
            x.yarn(w, w % 2, 100 - 20 * w);
        }
        x.store(0, 900);
        x.store(1, 200);
        x.order(0, 60, 30, 7, 1);
        x.order(1, 55, 20, 9, 0);
        x.order(0, 50, 25, 9, 0);
        x.order(1, 50, 15, 9, 0);
        return x;
    }

    private static WeaveShares richThen() {
        WeaveShares x = rich();
        x.pass(4);
        return x;
    }

    private static void doneOrdersComeBack() {
        WeaveShares x = Made.weaving(5, 0);
        x.order(0, 50, 7, 5, 3);
        x.order(0, 60, 2, 6, 4);
        x.pass(1);
        Check.due("pass(2)", x.pass(2), 2);
        // New orders take the places of the done ones, and are gone again.
        x.order(1, 40, 1, 1, 0);
        x.order(1, 40, 1, 1, 0);
        x.undo();
        x.undo();
        Check.due("undo() of pass(2)", x.undo(), 3);
        int[][] want = {{0, 0, 50, 7, 5, 3, 5, 10, 1}, {1, 0, 60, 2, 6, 4, 0, 12, 1}};
        for (int place = 0; place < 2; place++) {
            for (int what = 0; what < 9; what++) {
                Check.due("orderOf(" + place + ", " + what + ")", x.orderOf(place, what),
                        want[place][what]);
            }
        }
        Check.due("wovenBy(0, 0)", x.wovenBy(0, 0), 5);
        Check.due("wovenBy(1, 0)", x.wovenBy(1, 0), 0);
        Check.due("the next number", x.order(0, 40, 1, 1, 0), 2);
        Check.due("pass(3)", x.pass(3), 3);
    }

    private static void bufferStays() {
        WeaveShares x = new WeaveShares();
        x.store(0, 1);
        Check.append(x, "1x40c0");
        Check.due("undo()", x.undo(), 0);
        Check.due("takeAll() of what is in the buffer still", x.takeAll(), 1);
        Check.append(x, "7");
        Check.due("undo() of takeAll", x.undo(), 0);
        Check.due("orders", x.count(1), 0);
        Check.due("the buffer is what was appended since", x.clearBuffer(), 1);
        x.store(0, 1);
        x.clearBuffer();
        x.undo();
        Check.due("a cleared buffer stays cleared", x.clearBuffer(), 0);
    }

    private static void undoIsNotUndone() {
        WeaveShares x = new WeaveShares();
        x.store(0, 1);
        x.store(0, 2);
        Check.due("undo()", x.undo(), 1);
        Check.due("store", x.share(STORE, 0), 1);
        Check.due("undo()", x.undo(), 0);
        Check.due("store", x.share(STORE, 0), 0);
        Check.state("undo()", x, x::undo);
        Check.due("a call behind it", x.store(0, 5), 5);
        Check.due("undo()", x.undo(), 0);
        Check.due("store", x.share(STORE, 0), 0);
    }

    private static void atMostSix() {
        WeaveShares x = new WeaveShares();
        for (int i = 1; i <= 20; i++) {
            Check.due("saved states ahead of call " + i, x.count(11), Math.min(i - 1, 6));
            x.store(0, 1);
        }
        Check.due("saved states", x.count(11), 6);
        for (int i = 5; i >= 0; i--) {
            Check.due("undo()", x.undo(), i);
        }
        Check.state("undo() of no more", x, x::undo);
        Check.due("store", x.share(STORE, 0), 14);
    }

    private static void oldestIsDropped() {
        for (int calls = 1; calls <= 14; calls++) {
            WeaveShares x = new WeaveShares();
            for (int i = 1; i <= calls; i++) {
                x.store(0, i);
            }
            int stock = calls * (calls + 1) / 2;
            for (int i = calls; i > calls - 6 && i > 0; i--) {
                x.undo();
                stock -= i;
                Check.due("store behind " + calls + " calls and undo of " + i, x.share(STORE, 0), stock);
            }
            Check.due("saved states", x.count(11), 0);
        }
        // Some are undone in between; then more are saved than there is room for.
        WeaveShares x = new WeaveShares();
        int[] stocks = new int[40];
        int depth = 0;
        for (int i = 1; i <= 30; i++) {
            x.store(1, i);
            depth++;
            stocks[depth] = stocks[depth - 1] + i;
            if (i % 4 == 0) {
                x.undo();
                depth--;
                Check.due("store in between", x.share(STORE, 1), stocks[depth]);
            }
        }
        for (int left = x.count(11); left > 0; left--) {
            x.undo();
            depth--;
            Check.due("store at the end", x.share(STORE, 1), stocks[depth]);
        }
    }

    private static void passAsOneCall() {
        WeaveShares x = Made.weaving(1, 0);
        x.order(0, 50, 200, 1, 0);
        x.pass(99);
        Check.due("saved states", x.count(11), 4);
        Check.due("undo()", x.undo(), 3);
        Check.due("hours", x.count(0), 0);
        Check.due("woven", x.count(5), 0);
    }

    private static void takeAllAsOneCall() {
        WeaveShares x = Made.buffered("1x40c0;1x40c0;1x40c0;1x40c0;1x40c0;1x40c0;1x40c0;1x40c0");
        x.takeAll();
        Check.due("saved states", x.count(11), 1);
        Check.due("undo()", x.undo(), 0);
        Check.due("orders", x.count(1), 0);
        Check.due("the next number", x.order(0, 40, 1, 1, 0), 0);
    }

    private static void latest() {
        WeaveShares x = new WeaveShares();
        x.set(3, 1);
        x.set(3, 2);
        x.set(3, 3);
        x.undo();
        Check.due("setting(3)", x.setting(3), 2);
        x.set(3, 4);
        x.undo();
        Check.due("setting(3)", x.setting(3), 2);
        x.undo();
        Check.due("setting(3)", x.setting(3), 1);
    }

    private static void howManyAreLeft() {
        WeaveShares x = new WeaveShares();
        x.store(0, 1);
        Check.due("undo() of the only one", x.undo(), 0);
        for (int i = 0; i < 6; i++) {
            x.store(0, 1);
        }
        for (int i = 5; i >= 0; i--) {
            Check.due("undo()", x.undo(), i);
            Check.due("count(11)", x.count(11), i);
        }
    }

    private static void noneIsSaved() {
        Check.refusesState("undo() of a new object", WeaveShares::new, WeaveShares::undo);
        Check.refusesState("undo() with a buffer", () -> Made.buffered("1x40c0"), WeaveShares::undo);
        Check.refusesState("undo() behind undo()", () -> {
            WeaveShares x = new WeaveShares();
            x.store(0, 1);
            x.undo();
            return x;
        }, WeaveShares::undo);
        Check.refusesState("undo() behind six of them", () -> {
            WeaveShares x = Made.busy();
            for (int i = 0; i < 6; i++) {
                x.undo();
            }
            return x;
        }, WeaveShares::undo);
    }

    private static void indexFirst() {
        Check.refusesIndex("loom", Made::busy, x -> x.loom(6, 39, 0, -1));
        Check.refusesIndex("yarn of 10000", Made::busy, x -> x.yarn(6, 0, 10000));
        Check.refusesIndex("yarn of 10000", Made::busy, x -> x.yarn(0, 4, 10000));
        Check.refusesIndex("yarn, too little", Made::busy, x -> x.yarn(0, 4, -9999));
        Check.refusesIndex("yarn, too little", Made::busy, x -> x.yarn(-1, 0, -9999));
        Check.refusesIndex("store of 0", Made::busy, x -> x.store(4, 0));
        Check.refusesIndex("store of 10000", Made::busy, x -> x.store(-1, 10000));
        Check.refusesIndex("give to itself", Made::busy, x -> x.give(6, 6, 0, 1));
        Check.refusesIndex("give to itself", Made::busy, x -> x.give(-1, -1, 0, 1));
        Check.refusesIndex("give to itself, no colour", Made::busy, x -> x.give(0, 0, 4, 1));
        Check.refusesIndex("give of 0", Made::busy, x -> x.give(0, 6, 0, 0));
        Check.refusesIndex("give of 0", Made::busy, x -> x.give(0, 1, -1, 0));
        Check.refusesIndex("give too much", Made::busy, x -> x.give(0, 6, 0, 9999));
        Check.refusesIndex("order", Made::busy, x -> x.order(4, 39, 0, 0, -1));
        Check.refusesIndex("order, an eleventh", Made::full, x -> x.order(4, 50, 5, 5, 5));
        Check.refusesIndex("order, an eleventh, all wrong", Made::full, x -> x.order(-1, 0, 0, 0, -1));
        Check.refusesIndex("set", Made::busy, x -> x.set(4, -1));
        Check.refusesIndex("set", Made::busy, x -> x.set(-1, 99));
        Check.refusesIndex("weaver", Made::busy, x -> x.weaver(6, 8));
        Check.refusesIndex("weaver", Made::busy, x -> x.weaver(-1, -1));
        Check.refusesIndex("next", Made::busy, x -> x.next(6, 2));
        Check.refusesIndex("next", Made::busy, x -> x.next(-1, -1));
    }

    private static void argumentFirst() {
        Check.refusesArgument("yarn of 10000, too much", () -> {
            WeaveShares x = new WeaveShares();
            x.yarn(0, 0, 9999);
            return x;
        }, x -> x.yarn(0, 0, 10000));
        Check.refusesArgument("yarn of -10000, too little", Made::busy, x -> x.yarn(0, 0, -10000));
        Check.refusesArgument("store of 10000, too much", UndoBoundsTest::refusing, x -> x.store(3, 10000));
        Check.refusesArgument("give to itself, too much", Made::busy, x -> x.give(0, 0, 0, 9999));
        Check.refusesArgument("give of 10000, too much", Made::busy, x -> x.give(0, 1, 0, 10000));
        Check.refusesArgument("order, an eleventh", Made::full, x -> x.order(0, 39, 5, 5, 5));
        Check.refusesArgument("order, an eleventh", Made::full, x -> x.order(0, 50, 5, 5, 10000));
        Check.refusesArgument("pass(100) at 9999", () -> Made.at(9999), x -> x.pass(100));
        Check.refusesArgument("pass(0) at 9999", () -> Made.at(9999), x -> x.pass(0));
        String sixty = "1x40c0;1x40c0;1x40c0;1x40c0;1x40c0;1x40c0;1x40c0;1x40c0@999!";
        Check.refusesArgument("append(32) at 60", () -> Made.buffered(sixty), x -> x.append(32));
        Check.refusesArgument("append(127) at 60", () -> Made.buffered(sixty), x -> x.append(127));
        Check.refusesArgument("takeAll() of too many with an error", () -> {
            WeaveShares x = Made.full();
            Check.append(x, sixty);
            return x;
        }, WeaveShares::takeAll);
        Check.refusesArgument("takeAll() of an empty buffer with ten", Made::full,
                WeaveShares::takeAll);
        // Here, IllegalArgumentException is named first.
        Check.refusesArgument("wovenBy(-1, 6)", Made::busy, x -> x.wovenBy(-1, 6));
        Check.refusesArgument("wovenBy(-1, -1)", Made::busy, x -> x.wovenBy(-1, -1));
        Check.refusesIndex("wovenBy(99, 6)", Made::busy, x -> x.wovenBy(99, 6));
    }

    private static void manyOrders() {
        WeaveShares x = new WeaveShares();
        for (int i = 0; i < 255; i++) {
            Check.due("order " + i, x.order(i % 4, 40, 1, 1, 0), i);
            Check.due("cancel(" + i + ")", x.cancel(i), 0);
        }
        Check.due("the 511th call", x.order(0, 40, 1, 1, 0), 255);
        Check.due("the 512th call", x.orderOf(0, 0), 255);
    }

    private static void manySaved() {
        WeaveShares x = new WeaveShares();
        for (int i = 1; i <= 507; i++) {
            Check.due("store", x.store(i % 4, 1), (i + 3) / 4);
        }
        for (int i = 5; i > 1; i--) {
            Check.due("undo()", x.undo(), i);
        }
        Check.due("the 512th call", x.share(STORE, 3), 126);
    }

    private static void manyTexts() {
        WeaveShares x = new WeaveShares();
        for (int i = 0; i < 8; i++) {
            for (int length = 1; length <= 60; length++) {
                Check.due("append", x.append('1'), length);
            }
            Check.due("firstError()", x.firstError(), 3);
            Check.due("clearBuffer()", x.clearBuffer(), 60);
        }
        Check.append(x, "1x40c0$10@123");
        Check.due("firstError()", x.firstError(), 13);
        Check.due("the 511th call", x.takeAll(), 1);
        Check.due("the 512th call", x.orderOf(0, 5), 123);
    }

    private static void manyLooks() {
        WeaveShares x = LookTest.busy();
        x.yarn(4, 1, 999);
        long hash = x.digest();
        for (int i = 0; i < 96; i++) {
            Check.due("ifPassed", x.ifPassed(200, 0), 1);
            Check.due("doneIn", x.doneIn(1), 9);
            Check.due("bestRule", x.bestRule(99), 0);
            Check.due("dueNow", x.dueNow(0, 0), 54);
            Check.due("evenness", x.evenness(), 1.0);
        }
        Check.that("the digest is the same", hash == x.digest());
    }
}
