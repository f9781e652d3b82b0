/** What the tests of this folder say when an answer is not the one that is due. */
final class Check {
    private static int wrong = 0;
    private static int looked = 0;
    private static String sentence = "";

    private Check() {
    }

    /** A call that may throw, or a test. */
    interface Call {
        void run();
    }

    /** Makes an object, the same one each time. */
    interface Maker {
        WeaveShares make();
    }

    /** A call on an object. */
    interface On {
        long answer(WeaveShares x);
    }

    /** A call on an object, with one argument that is tried with several values. */
    interface OnWith {
        long answer(WeaveShares x, int value);
    }

    /** The test of one sentence of the document, which is told when it fails. */
    static void sentence(String words, Call test) {
        sentence = "\"" + words + "\": ";
        try {
            test.run();
        } catch (RuntimeException e) {
            tell("threw " + e);
        }
        sentence = "";
    }

    static void due(String call, long got, long want) {
        looked++;
        if (got != want) {
            tell(call + " answered " + got + ", due is " + want);
        }
    }

    static void due(String call, double got, double want) {
        looked++;
        if (got != want) {
            tell(call + " answered " + got + ", due is " + want);
        }
    }

    static void that(String what, boolean holds) {
        looked++;
        if (!holds) {
            tell(what);
        }
    }

    private static Class<?> thrownBy(Call body) {
        try {
            body.run();
        } catch (RuntimeException e) {
            return e.getClass();
        }
        return null;
    }

    private static void threw(String call, Class<?> due, Call body) {
        looked++;
        Class<?> got = thrownBy(body);
        if (got != due) {
            tell(call + " threw " + got + ", due is " + due);
        }
    }

    /** The call throws just this class, and changes nothing that the digest tells. */
    static void refused(String call, WeaveShares x, Class<?> due, Call body) {
        long before = x.digest();
        threw(call, due, body);
        that(call + " changed something", before == x.digest());
    }

    static void index(String call, WeaveShares x, Call body) {
        refused(call, x, IndexOutOfBoundsException.class, body);
    }

    static void argument(String call, WeaveShares x, Call body) {
        refused(call, x, IllegalArgumentException.class, body);
    }

    static void state(String call, WeaveShares x, Call body) {
        refused(call, x, IllegalStateException.class, body);
    }

    /** The call throws just this class; nothing at all is changed by it, seen or saved. */
    static void refuses(String call, Maker maker, Class<?> due, On body) {
        WeaveShares x = maker.make();
        threw(call, due, () -> body.answer(x));
        alike(call, x, maker.make());
        WeaveShares y = maker.make();
        thrownBy(() -> body.answer(y));
        sameNumber(call, y, maker.make());
    }

    static void refusesIndex(String call, Maker maker, On body) {
        refuses(call, maker, IndexOutOfBoundsException.class, body);
    }

    static void refusesArgument(String call, Maker maker, On body) {
        refuses(call, maker, IllegalArgumentException.class, body);
    }

    static void refusesState(String call, Maker maker, On body) {
        refuses(call, maker, IllegalStateException.class, body);
    }

    static void indexEach(String call, Maker maker, int[] values, OnWith body) {
        for (int value : values) {
            refusesIndex(call + " with " + value, maker, x -> body.answer(x, value));
        }
    }

    static void argumentEach(String call, Maker maker, int[] values, OnWith body) {
        for (int value : values) {
            refusesArgument(call + " with " + value, maker, x -> body.answer(x, value));
        }
    }

    /** The call answers this, and changes nothing at all, seen or saved. */
    static void changesNothing(String call, Maker maker, On body) {
        WeaveShares x = maker.make();
        body.answer(x);
        alike(call, x, maker.make());
        WeaveShares y = maker.make();
        body.answer(y);
        sameNumber(call, y, maker.make());
    }

    /** All that can be seen of both is the same, and so is all that is saved. */
    static void alike(String call, WeaveShares x, WeaveShares y) {
        String seen = Picture.of(x);
        that(call + " changed something: " + seen, seen.equals(Picture.of(y)));
        int saved = y.count(11);
        for (int i = saved - 1; i >= 0; i--) {
            due(call + ", then undo()", undoOf(x), i);
            y.undo();
            that(call + " changed saved state " + i, x.digest() == y.digest());
        }
        due(call + ", then undo() of no more", undoOf(x), -1);
    }

    private static int undoOf(WeaveShares x) {
        try {
            return x.undo();
        } catch (IllegalStateException e) {
            return -1;
        }
    }

    /** The number that the next order gets cannot be seen before there is one. */
    static void sameNumber(String call, WeaveShares x, WeaveShares y) {
        if (y.count(1) == 10) {
            x.cancel(x.orderOf(0, 0));
            y.cancel(y.orderOf(0, 0));
        }
        int want = y.order(0, 40, 1, 1, 0);
        due(call + ", then the next order's number", x.order(0, 40, 1, 1, 0), want);
    }

    /** The call answers this, and changes nothing. */
    static void look(String call, WeaveShares x, java.util.function.LongSupplier body, long want) {
        long before = x.digest();
        due(call, body.getAsLong(), want);
        that(call + " changed something", before == x.digest());
    }

    /** The call, which answers this, saves a state from which undo brings all back. */
    static void undoable(String call, WeaveShares x, java.util.function.LongSupplier body, long want) {
        long before = x.digest();
        int saved = x.count(11);
        that(call + ": the test asks for room for a saved state", saved < 6);
        due(call, body.getAsLong(), want);
        due(call + ", then count(11)", x.count(11), saved + 1);
        due(call + ", then undo()", x.undo(), saved);
        that(call + " is not undone", before == x.digest());
        body.getAsLong();
    }

    /** The call, which answers this, is undone wholly, as is told by an object without it. */
    static void undoes(String call, Maker maker, On body, long want) {
        WeaveShares x = maker.make();
        WeaveShares y = maker.make();
        int saved = y.count(11);
        due(call, body.answer(x), want);
        due(call + ", then count(11)", x.count(11), Math.min(saved + 1, 6));
        due(call + ", then undo()", undoOf(x), Math.min(saved, 5));
        String back = Picture.withoutSaved(x);
        that(call + " is not undone: " + back, back.equals(Picture.withoutSaved(y)));
        sameNumber(call + " and undo()", x, y);
    }

    static void append(WeaveShares x, String text) {
        for (int i = 0; i < text.length(); i++) {
            x.append(text.charAt(i));
        }
    }

    private static void tell(String text) {
        wrong++;
        if (wrong <= 50) {
            System.out.println(sentence + text);
        }
    }

    static void end(String name) {
        System.out.println(name + ": " + looked + " looked at, " + wrong + " wrong");
        if (wrong != 0) {
            System.exit(1);
        }
    }
}
