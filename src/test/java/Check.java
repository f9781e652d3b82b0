/** What the tests of this folder say when an answer is not the one that is due. */
final class Check {
    private static int wrong = 0;
    private static int looked = 0;

    private Check() {
    }

    /** A call that may throw. */
    interface Call {
        void run();
    }

    static void due(String call, long got, long want) {
        looked++;
        if (got != want) {
            tell(call + " answered " + got + ", due is " + want);
        }
    }

    static void due(String call, double got, double want) {
        looked++;
        if (got != want) {
            tell(call + " answered " + got + ", due is " + want);
        }
    }

    static void that(String what, boolean holds) {
        looked++;
        if (!holds) {
            tell(what);
        }
    }

    /** The call throws just this class, and changes nothing. */
    static void refused(String call, WeaveShares x, Class<?> due, Call body) {
        looked++;
        String before = Picture.of(x);
        Class<?> got = null;
        try {
            body.run();
        } catch (RuntimeException e) {
            got = e.getClass();
        }
        if (got != due) {
            tell(call + " threw " + got + ", due is " + due);
        }
        if (!before.equals(Picture.of(x))) {
            tell(call + " changed something");
        }
    }

    static void index(String call, WeaveShares x, Call body) {
        refused(call, x, IndexOutOfBoundsException.class, body);
    }

    static void argument(String call, WeaveShares x, Call body) {
        refused(call, x, IllegalArgumentException.class, body);
    }

    static void state(String call, WeaveShares x, Call body) {
        refused(call, x, IllegalStateException.class, body);
    }

    /** The call answers this, and changes nothing. */
    static void look(String call, WeaveShares x, java.util.function.LongSupplier body, long want) {
        String before = Picture.of(x);
        due(call, body.getAsLong(), want);
        that(call + " changed something", before.equals(Picture.of(x)));
    }

    /** The call, which answers this, saves a state from which undo brings all back. */
    static void undoable(String call, WeaveShares x, java.util.function.LongSupplier body, long want) {
        String before = Picture.withoutSaved(x);
        int saved = x.count(11);
        due(call, body.getAsLong(), want);
        due(call + ", then count(11)", x.count(11), saved < 6 ? saved + 1 : 6);
        due(call + ", then undo()", x.undo(), saved < 6 ? saved : 5);
        that(call + " is not undone", before.equals(Picture.withoutSaved(x)));
        body.getAsLong();
    }

    static void append(WeaveShares x, String text) {
        for (int i = 0; i < text.length(); i++) {
            x.append(text.charAt(i));
        }
    }

    private static void tell(String text) {
        wrong++;
        if (wrong <= 50) {
            System.out.println(text);
        }
    }

    static void end(String name) {
        System.out.println(name + ": " + looked + " looked at, " + wrong + " wrong");
        if (wrong != 0) {
            System.exit(1);
        }
    }
}
