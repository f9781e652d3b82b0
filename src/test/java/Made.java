/** Objects for the tests of bounds, each the same one each time that it is made. */
final class Made {
    private static final int LOW = Integer.MIN_VALUE;
    private static final int HIGH = Integer.MAX_VALUE;

    /** What is just outside of the weavers, the colours, ..., and far outside. */
    static final int[] NO_WEAVER = {LOW, -1, 6, HIGH};
    static final int[] NO_COLOUR = {LOW, -1, 4, HIGH};

    private Made() {
    }

    /** Just outside of a range, and far outside. */
    static int[] outside(int least, int most) {
        return new int[] {LOW, least - 1, most + 1, HIGH};
    }

    /** Looms, orders begun, faults, debts, six saved states, and a text in the buffer. */
    static WeaveShares busy() {
        WeaveShares x = LookTest.busy();
        Check.append(x, "5x90c0$7;1");
        return x;
    }

    /** Ten orders, the first of them begun by four weavers; weaver 4 has too narrow a loom. */
    static WeaveShares full() {
        WeaveShares x = new WeaveShares();
        x.loom(0, 60, 3, 2);
        x.loom(1, 50, 2, 0);
        x.loom(3, 200, 4, 0);
        x.loom(4, 45, 1, 0);
        x.loom(5, 55, 2, 3);
        x.store(0, 200);
        x.yarn(3, 0, 11);
        for (int i = 0; i < 10; i++) {
            x.order(i % 4, 50 + i, 20 + i, 9 + i, i / 3);
        }
        x.pass(1);
        return x;
    }

    /** So many hours have gone. */
    static WeaveShares at(int hours) {
        WeaveShares x = new WeaveShares();
        for (int i = hours; i > 0; i -= 99) {
            x.pass(Math.min(i, 99));
        }
        return x;
    }

    /** A loom of weaver 0, with yarn of colour 0 for all that comes. */
    static WeaveShares weaving(int speed, int care) {
        WeaveShares x = new WeaveShares();
        x.loom(0, 200, speed, care);
        x.yarn(0, 0, 9999);
        return x;
    }

    static WeaveShares buffered(String text) {
        WeaveShares x = new WeaveShares();
        Check.append(x, text);
        return x;
    }
}
