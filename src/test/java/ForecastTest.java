/** Promises 22 to 27: ifPassed, doneIn, bestRule, dueNow, evenness, digest. */
public final class ForecastTest {
    private static final int LOW = Integer.MIN_VALUE;
    private static final int HIGH = Integer.MAX_VALUE;

    private ForecastTest() {
    }

    public static void main(String[] args) {
        ifPassed();
        ifPassedAsPassed();
        ifPassedBeyondAStop();
        doneIn();
        doneInBounds();
        bestRule();
        bestRuleTried();
        dueNow();
        dueNowShared();
        evenness();
        evennessOfOne();
        evennessBits();
        digest();
        digestOfHours();
        digestOfNew();
        Check.end("ForecastTest");
    }

    private static void ifPassed() {
        WeaveShares x = LookTest.busy();
        x.yarn(5, 0, 500);
        // 4 ends order 0 with two, so 5 weaves order 2: seven by then, two of them with faults.
        for (int what = 0; what < 5; what++) {
            for (int hours : new int[] {1, 7, 200}) {
                int asked = what;
                Check.look("ifPassed(" + hours + ", " + what + ")", x,
                        () -> x.ifPassed(hours, asked), passed(hours, asked));
            }
        }
        for (int wrong : new int[] {LOW, -1, 0, 201, HIGH}) {
            Check.argument("ifPassed(" + wrong + ", 0)", x, () -> x.ifPassed(wrong, 0));
        }
        for (int wrong : new int[] {LOW, -1, 5, HIGH}) {
            Check.argument("ifPassed(1, " + wrong + ")", x, () -> x.ifPassed(1, wrong));
        }
    }

    /** What passing so many hours does bring to the same object. */
    private static int passed(int hours, int what) {
        WeaveShares x = LookTest.busy();
        x.yarn(5, 0, 500);
        int[] counts = {2, 4, 6, 8, 3};
        int before = what == 3 ? 0 : x.count(counts[what]);
        for (int i = 0; i < hours; i++) {
            x.pass(1);
        }
        return x.count(counts[what]) - before;
    }

    private static void ifPassedAsPassed() {
        WeaveShares x = new WeaveShares();
        x.loom(0, 100, 2, 0);
        x.loom(1, 100, 1, 2);
        x.store(0, 1000);
        x.order(0, 50, 6, 10, 0);
        x.order(0, 50, 6, 10, 9);
        x.set(2, 10);
        // Good ones: 2 and 1, then 2 (a fault), then 1: done in the third hour, two hours late.
        // 1 is paid 8 of the 10 grams that it owes, and borrows 5 more in the same hour.
        int[][] want = {{0, 0, 0, 15, 0}, {0, 0, 1, 30, 0}, {1, 48, 1, 7, 1}};
        for (int hours = 1; hours <= 3; hours++) {
            for (int what = 0; what < 5; what++) {
                Check.due("ifPassed(" + hours + ", " + what + ")", x.ifPassed(hours, what),
                        want[hours - 1][what]);
            }
        }
        Check.due("ifPassed(200, 0)", x.ifPassed(200, 0), 2);
        Check.due("ifPassed(200, 4)", x.ifPassed(200, 4), 1);
        Check.due("pass(3)", x.pass(3), 1);
        Check.due("paid", x.count(4), 48);
        Check.due("what is behind does not count", x.ifPassed(200, 0), 1);
        Check.due("nor what was paid", x.ifPassed(200, 1), 60);
        Check.due("nor what was late", x.ifPassed(200, 4), 0);
    }

    private static void ifPassedBeyondAStop() {
        WeaveShares x = new WeaveShares();
        x.loom(0, 100, 2, 0);
        x.loom(1, 50, 2, 0);
        x.yarn(1, 1, 20);
        x.order(0, 60, 6, 10, 0);
        x.order(1, 50, 4, 10, 9);
        // 0 stands still for good, but 1 goes on.
        Check.due("ifPassed(200, 0)", x.ifPassed(200, 0), 1);
        Check.due("ifPassed(200, 1)", x.ifPassed(200, 1), 40);
        Check.due("doneIn(1)", x.doneIn(1), 2);
        Check.due("doneIn(0)", x.doneIn(0), -1);
    }

    private static void doneIn() {
        WeaveShares x = new WeaveShares();
        x.loom(0, 100, 2, 0);
        x.loom(3, 70, 1, 0);
        x.yarn(0, 0, 9999);
        x.yarn(3, 0, 9999);
        x.order(0, 90, 7, 1, 5);
        x.order(0, 60, 5, 1, 6);
        Check.look("doneIn(0)", x, () -> x.doneIn(0), 4);
        // 3 weaves four of it, before 0 comes in the fifth hour.
        Check.look("doneIn(1)", x, () -> x.doneIn(1), 5);
        for (int wrong : new int[] {LOW, -1, 2, HIGH}) {
            Check.index("doneIn(" + wrong + ")", x, () -> x.doneIn(wrong));
        }
        x.pass(4);
        Check.index("doneIn(0), which is done", x, () -> x.doneIn(0));
        Check.due("doneIn(1)", x.doneIn(1), 1);
        x.cancel(1);
        Check.index("doneIn(1), which is cancelled", x, () -> x.doneIn(1));
    }

    private static void doneInBounds() {
        WeaveShares x = new WeaveShares();
        x.loom(0, 100, 1, 0);
        x.yarn(0, 0, 9999);
        x.order(0, 40, 200, 1, 0);
        Check.due("doneIn of 200 hours", x.doneIn(0), 200);
        Check.due("ifPassed(199, 0)", x.ifPassed(199, 0), 0);
        Check.due("ifPassed(200, 0)", x.ifPassed(200, 0), 1);
        x.loom(0, 100, 1, 99);
        Check.due("doneIn of 202 hours", x.doneIn(0), -1);
        x.pass(2);
        Check.due("doneIn of 200 hours", x.doneIn(0), 200);
        x.loom(0, 100, 9, 1);
        Check.due("doneIn with faults alone", x.doneIn(0), -1);
        x.loom(0, 0, 0, 0);
        Check.due("doneIn without looms", x.doneIn(0), -1);
    }

    private static void bestRule() {
        WeaveShares x = new WeaveShares();
        Check.due("bestRule of nothing", x.bestRule(1), 0);
        x.loom(0, 100, 1, 0);
        x.yarn(0, 0, 9999);
        x.order(0, 50, 3, 10, 0);
        x.order(0, 60, 3, 10, 5);
        x.order(0, 40, 3, 11, 5);
        x.set(2, 0);
        Check.look("bestRule(2)", x, () -> x.bestRule(2), 0);
        // In three hours: 30 by the order, late; 30 by width, in time; 33 by price.
        Check.look("bestRule(3)", x, () -> x.bestRule(3), 2);
        x.cancel(2);
        Check.look("bestRule(3), of equal pay", x, () -> x.bestRule(3), 1);
        x.set(0, 2);
        Check.look("bestRule(3), with another rule", x, () -> x.bestRule(3), 1);
        // In six hours, all are paid.
        Check.look("bestRule(99)", x, () -> x.bestRule(99), 0);
        Check.due("the rule stays", x.setting(0), 2);
        for (int wrong : new int[] {LOW, -1, 0, 100, HIGH}) {
            Check.argument("bestRule(" + wrong + ")", x, () -> x.bestRule(wrong));
        }
    }

    private static void bestRuleTried() {
        for (int cost = 0; cost <= 50; cost += 10) {
            WeaveShares x = new WeaveShares();
            x.loom(0, 100, 1, 0);
            x.loom(1, 55, 1, 3);
            x.store(0, 9999);
            x.set(2, cost);
            x.order(0, 50, 4, 10, 1);
            x.order(0, 52, 3, 12, 1);
            x.order(0, 60, 4, 9, 2);
            for (int hours = 1; hours < 12; hours++) {
                Check.due("bestRule(" + hours + "), cost " + cost, x.bestRule(hours),
                        bestIn(x, hours));
            }
            x.pass(2);
            Check.due("bestRule(5), cost " + cost, x.bestRule(5), bestIn(x, 5));
        }
    }

    /** By trying the rules, and taking them back. */
    private static int bestIn(WeaveShares x, int hours) {
        int best = -1;
        int most = -1;
        int fewest = -1;
        for (int rule = 0; rule < 3; rule++) {
            x.set(0, rule);
            int paid = x.ifPassed(hours, 1);
            int late = x.ifPassed(hours, 4);
            x.undo();
            if (paid > most || paid == most && late < fewest) {
                best = rule;
                most = paid;
                fewest = late;
            }
        }
        return best;
    }

    private static void dueNow() {
        WeaveShares x = LookTest.busy();
        int[][] want = {{54, 0, 0, 0, 0, 0}, {0, 0, 0, 0, 16, 0}, {0, 0, 0, 0, 0, 0}};
        for (int n = 0; n < 3; n++) {
            for (int w = 0; w < 6; w++) {
                int number = n;
                int weaver = w;
                Check.look("dueNow(" + n + ", " + w + ")", x, () -> x.dueNow(number, weaver),
                        want[n][w]);
            }
        }
        for (int wrong : new int[] {LOW, -1, 3, HIGH}) {
            Check.index("dueNow(" + wrong + ", 0)", x, () -> x.dueNow(wrong, 0));
        }
        for (int wrong : new int[] {LOW, -1, 6, HIGH}) {
            Check.index("dueNow(0, " + wrong + ")", x, () -> x.dueNow(0, wrong));
        }
        WeaveShares y = LookTest.paid();
        Check.index("dueNow(0, 0), which is done", y, () -> y.dueNow(0, 0));
        Check.index("dueNow(1, 4), which is cancelled", y, () -> y.dueNow(1, 4));
    }

    private static void dueNowShared() {
        WeaveShares x = new WeaveShares();
        x.loom(1, 100, 1, 0);
        x.loom(2, 100, 3, 0);
        x.loom(3, 100, 3, 0);
        x.store(0, 9999);
        x.order(0, 50, 100, 3, 1);
        x.pass(3);
        // 21 good ones: 63 less 63 * 2 * 5 / 100 are 57: 8, 24 and 24, and one is left over for 2.
        int[] want = {0, 8, 25, 24, 0, 0};
        for (int w = 0; w < 6; w++) {
            Check.due("dueNow(0, " + w + ")", x.dueNow(0, w), want[w]);
        }
        x.set(2, 50);
        Check.due("dueNow(0, 2), of nothing", x.dueNow(0, 2), 0);
        x.set(2, 49);
        // 63 less 61 are 2, which are all left over.
        Check.due("dueNow(0, 2), of two", x.dueNow(0, 2), 2);
        Check.due("dueNow(0, 3), of two", x.dueNow(0, 3), 0);
        // It is told ahead of debts, whatever they cost.
        x.set(3, 0);
        Check.due("dueNow(0, 2), with debts", x.dueNow(0, 2), 2);
    }

    private static void evenness() {
        WeaveShares x = new WeaveShares();
        Check.due("evenness()", x.evenness(), 1.0);
        x.loom(0, 100, 3, 0);
        x.loom(1, 100, 1, 0);
        x.yarn(0, 0, 100);
        x.yarn(1, 0, 100);
        Check.due("nothing was earned", x.evenness(), 1.0);
        x.order(0, 50, 4, 10, 9);
        x.pass(1);
        Check.due("30 and 10", x.evenness(), 10.0 / 30.0);
        x.loom(2, 40, 1, 0);
        Check.due("a loom that earned nothing", x.evenness(), 0.0);
        x.loom(0, 0, 0, 0);
        Check.due("without the best one", x.evenness(), 0.0);
        x.loom(2, 0, 0, 0);
        Check.due("one loom alone", x.evenness(), 1.0);
        x.loom(1, 0, 0, 0);
        Check.due("without looms, though they earned", x.evenness(), 1.0);
        x.loom(4, 50, 1, 1);
        Check.due("a loom that earned nothing, alone", x.evenness(), 1.0);
    }

    private static void evennessOfOne() {
        WeaveShares x = new WeaveShares();
        x.loom(0, 100, 3, 0);
        x.loom(1, 100, 1, 0);
        x.yarn(0, 0, 100);
        x.order(0, 50, 1, 1, 9);
        x.pass(1);
        Check.due("1 and 0", x.evenness(), 0.0);
    }

    /** The digest holds the bits of evenness: here of many ratios. */
    private static void evennessBits() {
        for (int price = 1; price <= 99; price++) {
            WeaveShares x = new WeaveShares();
            x.loom(0, 100, 9, 0);
            x.yarn(0, 0, 9999);
            x.order(0, 40, 9, 99, 50);
            x.order(0, 40, 9, 99, 50);
            x.order(0, 40, 5, 97, 50);
            x.pass(3);
            x.loom(0, 0, 0, 0);
            x.loom(1, 100, 1, 0);
            x.yarn(1, 0, 9);
            x.order(0, 40, 1, price, 90);
            x.pass(1);
            x.loom(0, 100, 9, 0);
            Check.due("evenness() of " + price, x.evenness(), price / 2267.0);
            Check.due("digest() with evenness of " + price, x.digest(), Digest.of(x, ""));
        }
    }

    private static void digest() {
        WeaveShares x = LookTest.busy();
        Check.due("digest()", x.digest(), Digest.of(x, ""));
        Check.append(x, "1x4~!");
        Check.due("digest() with a buffer", x.digest(), Digest.of(x, "1x4~!"));
        WeaveShares y = LookTest.paid();
        Check.due("digest()", y.digest(), Digest.of(y, ""));
        y.undo();
        Check.due("digest() behind undo", y.digest(), Digest.of(y, ""));
        Check.changesNothing("digest()", LookTest::paid, WeaveShares::digest);
    }

    /** With an order that is done in any hour, the digest tells 20 hours from 19 and from 21. */
    private static void digestOfHours() {
        for (int length = 10; length <= 22; length++) {
            WeaveShares x = new WeaveShares();
            x.loom(0, 60, 1, 0);
            x.yarn(0, 0, 999);
            x.order(0, 50, length, 7, 1);
            x.order(0, 60, length, 8, 1);
            Check.due("digest() with a length of " + length, x.digest(), Digest.of(x, ""));
        }
    }

    private static void digestOfNew() {
        WeaveShares x = new WeaveShares();
        Check.due("digest() of a new object", x.digest(), Digest.of(x, ""));
    }
}
