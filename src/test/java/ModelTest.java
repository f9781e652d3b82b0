/** Many runs of calls, the same ones each time, compared with the model's answers. */
public final class ModelTest {
    private static final int[] WILD = {Integer.MIN_VALUE, -10000, -9999, -2, -1, 0, 1, 3, 4, 5, 6, 7, 8,
        9, 10, 11, 12, 39, 40, 50, 51, 60, 98, 99, 100, 126, 127, 199, 200, 201, 9998, 9999, 10000,
        99999, 100000, Integer.MAX_VALUE - 1, Integer.MAX_VALUE};
    private static final String SIGNS = "0123456789xc$@;!";

    private static final int MOST_CALLS = 512;

    private long seed;
    private int calls;
    private WeaveShares x;
    private Model model;

    private ModelTest(long seed) {
        this.seed = seed;
    }

    public static void main(String[] args) {
        int runs = args.length > 0 ? Integer.parseInt(args[0]) : 1500;
        for (int i = 0; i < runs; i++) {
            new ModelTest(i * 7919L + 17).run(i);
        }
        Check.end("ModelTest");
    }

    private int below(int bound) {
        seed = seed * 6364136223846793005L + 1442695040888963407L;
        return (int) ((seed >>> 33) % bound);
    }

    private int from(int least, int most) {
        return least + below(most - least + 1);
    }

    /** Mostly of the range, at times at its edges, seldom anything. */
    private int about(int least, int most) {
        int kind = below(40);
        if (kind == 0) {
            return WILD[below(WILD.length)];
        }
        if (kind == 1) {
            return least - 1;
        }
        if (kind == 2) {
            return most + 1;
        }
        if (kind < 6) {
            return kind % 2 == 0 ? least : most;
        }
        return from(least, most);
    }

    private void run(int run) {
        x = new WeaveShares();
        model = new Model();
        boolean large = run % 3 == 0;
        prepare(large);
        // Some runs begin late, where what late hours cost goes beyond an int.
        for (int i = run % 9 == 0 ? below(101) : 0; i > 0; i--) {
            compare("pass 99", () -> x.pass(99), () -> model.pass(99));
        }
        // A step makes less than 70 calls, and nothing is promised behind the 512th one.
        for (int i = 0; i < 150 && calls < MOST_CALLS - 70; i++) {
            step(run, i, large);
        }
        compare("run " + run + ": digest()", () -> x.digest(), () -> model.digest());
        Check.that("run " + run + " made too many calls", calls <= MOST_CALLS);
    }

    private void prepare(boolean large) {
        for (int w = 0; w < 6; w++) {
            int weaver = w;
            int width = from(40, 200);
            int speed = from(1, 9);
            int care = below(3) == 0 ? 0 : from(1, large ? 99 : 9);
            if (below(4) > 0) {
                compare("loom", () -> x.loom(weaver, width, speed, care),
                        () -> model.loom(weaver, width, speed, care));
            }
        }
        for (int c = 0; c < 4; c++) {
            int colour = c;
            int grams = large ? from(1, 9999) : from(1, 400);
            compare("store", () -> x.store(colour, grams), () -> model.store(colour, grams));
        }
    }

    private interface Asked {
        long answer() throws Model.Refusal;
    }

    private void compare(String call, Asked real, Asked due) {
        calls++;
        long want = 0;
        Class<?> refusal = null;
        try {
            want = due.answer();
        } catch (Model.Refusal e) {
            refusal = e.due;
        }
        long got = 0;
        Class<?> thrown = null;
        try {
            got = real.answer();
        } catch (Model.Refusal | RuntimeException e) {
            thrown = e.getClass();
        }
        Check.that(call + " threw " + thrown + ", due is " + refusal, thrown == refusal);
        Check.due(call, got, want);
    }

    private void step(int run, int number, boolean large) {
        String at = "run " + run + ", call " + number + ": ";
        int kind = below(32);
        if (kind < 12) {
            change(at, kind, large);
        } else if (kind < 17) {
            text(at, kind);
        } else if (kind < 24) {
            look(at, kind);
        } else {
            foresee(at, kind);
        }
    }

    /** The number of an order that there is, or NONE. */
    private int someNumber() {
        calls++;
        return x.orderOf(below(10), 0);
    }

    private void change(String at, int kind, boolean large) {
        int w = about(0, 5);
        int other = about(0, 5);
        int c = about(0, 3);
        int few = about(-300, 300);
        int grams = about(1, large ? 9999 : 200);
        int width = below(8) == 0 ? 0 : about(40, 200);
        int speed = about(1, 9);
        int care = about(0, large ? 99 : 6);
        int orderWidth = about(40, below(3) == 0 ? 200 : 120);
        int length = about(1, large ? 200 : 25);
        int price = about(1, 99);
        int due = about(0, large ? 9999 : 40);
        int hours = about(1, large ? 99 : 9);
        int setting = about(0, 3);
        int value = about(0, new int[] {2, 1, 50, 9}[Math.max(0, Math.min(3, setting))]);
        int known = below(3) == 0 ? about(0, 30) : someNumber();
        switch (kind) {
            case 0 -> compare(at + "loom " + w + " " + width + " " + speed + " " + care,
                    () -> x.loom(w, width, speed, care), () -> model.loom(w, width, speed, care));
            case 1 -> compare(at + "yarn " + w + " " + c + " " + (large ? grams : few),
                    () -> x.yarn(w, c, large ? grams : few), () -> model.yarn(w, c, large ? grams : few));
            case 2 -> compare(at + "store " + c + " " + grams,
                    () -> x.store(c, grams), () -> model.store(c, grams));
            case 3 -> compare(at + "give " + w + " " + other + " " + c + " " + grams,
                    () -> x.give(w, other, c, grams), () -> model.give(w, other, c, grams));
            case 4, 5, 6 -> compare(
                    at + "order " + c + " " + orderWidth + " " + length + " " + price + " " + due,
                    () -> x.order(c, orderWidth, length, price, due),
                    () -> model.order(c, orderWidth, length, price, due));
            case 7 -> compare(at + "cancel " + known, () -> x.cancel(known), () -> model.cancel(known));
            case 8 -> compare(at + "set " + setting + " " + value,
                    () -> x.set(setting, value), () -> model.set(setting, value));
            case 9, 10 -> compare(at + "pass " + hours, () -> x.pass(hours), () -> model.pass(hours));
            default -> compare(at + "undo", () -> x.undo(), () -> model.undo());
        }
    }

    private void text(String at, int kind) {
        switch (kind) {
            case 12 -> {
                int code = about(33, 126);
                compare(at + "append " + code, () -> x.append(code), () -> model.append(code));
            }
            case 13, 14 -> write(at);
            case 15 -> compare(at + "takeAll", () -> x.takeAll(), () -> model.takeAll());
            default -> {
                compare(at + "firstError", () -> x.firstError(), () -> model.firstError());
                compare(at + "clearBuffer", () -> x.clearBuffer(), () -> model.clearBuffer());
            }
        }
        compare(at + "firstError", () -> x.firstError(), () -> model.firstError());
    }

    /** Appends some parts, at times with a sign that is wrong. */
    private void write(String at) {
        StringBuilder text = new StringBuilder();
        int parts = from(1, 3);
        for (int i = 0; i < parts; i++) {
            text.append(i > 0 || below(4) == 0 ? ";" : "").append(from(1, below(4) == 0 ? 200 : 30));
            text.append('x').append(from(40, 200)).append('c').append(from(0, 3));
            text.append(below(2) == 0 ? "$" + from(1, 99) : "");
            text.append(below(2) == 0 ? "@" + from(0, below(2) == 0 ? 9999 : 30) : "");
        }
        if (below(3) == 0) {
            text.setCharAt(below(text.length()), SIGNS.charAt(below(SIGNS.length())));
        }
        for (int i = 0; i < text.length(); i++) {
            int code = text.charAt(i);
            compare(at + "append " + code, () -> x.append(code), () -> model.append(code));
        }
    }

    private void look(String at, int kind) {
        int w = about(0, 5);
        int c = about(0, 3);
        int place = about(0, 9);
        int what = about(0, 8);
        int weaver = about(-1, 5);
        int one = about(0, 1);
        int counted = about(0, 11);
        switch (kind) {
            case 17 -> compare(at + "weaver " + w + " " + what,
                    () -> x.weaver(w, what), () -> model.weaver(w, what));
            case 18 -> compare(at + "share " + weaver + " " + c,
                    () -> x.share(weaver, c), () -> model.share(weaver, c));
            case 19 -> compare(at + "orderOf " + place + " " + what,
                    () -> x.orderOf(place, what), () -> model.orderOf(place, what));
            case 20 -> compare(at + "wovenBy " + place + " " + w,
                    () -> x.wovenBy(place, w), () -> model.wovenBy(place, w));
            case 21 -> compare(at + "next " + w + " " + one,
                    () -> x.next(w, one), () -> model.next(w, one));
            case 22 -> compare(at + "count " + counted,
                    () -> x.count(counted), () -> model.count(counted));
            default -> compare(at + "setting " + c, () -> x.setting(c), () -> model.setting(c));
        }
    }

    private void foresee(String at, int kind) {
        int hours = about(1, below(4) == 0 ? 200 : 30);
        int what = about(0, 4);
        int best = about(1, below(4) == 0 ? 99 : 20);
        int known = below(4) == 0 ? about(0, 30) : someNumber();
        int w = about(0, 5);
        switch (kind) {
            case 24, 25 -> compare(at + "ifPassed " + hours + " " + what,
                    () -> x.ifPassed(hours, what), () -> model.ifPassed(hours, what));
            case 26, 27 -> compare(at + "doneIn " + known,
                    () -> x.doneIn(known), () -> model.doneIn(known));
            case 28 -> compare(at + "bestRule " + best,
                    () -> x.bestRule(best), () -> model.bestRule(best));
            case 29 -> compare(at + "dueNow " + known + " " + w,
                    () -> x.dueNow(known, w), () -> model.dueNow(known, w));
            case 30 -> {
                calls++;
                Check.due(at + "evenness", x.evenness(), model.evenness());
            }
            default -> compare(at + "digest", () -> x.digest(), () -> model.digest());
        }
    }
}
