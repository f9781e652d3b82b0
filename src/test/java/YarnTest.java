/** Promises 1 to 5: a new object, loom, yarn, store, give. */
public final class YarnTest {
    private YarnTest() {
    }

    public static void main(String[] args) {
        newObject();
        loom();
        loomRefused();
        yarn();
        store();
        give();
        giveRefused();
        Check.end("YarnTest");
    }

    private static void newObject() {
        WeaveShares x = new WeaveShares();
        for (int w = 0; w < 6; w++) {
            for (int i = 0; i < 8; i++) {
                Check.due("new: weaver(" + w + ", " + i + ")", x.weaver(w, i), 0);
            }
            for (int c = 0; c < 4; c++) {
                Check.due("new: share(" + w + ", " + c + ")", x.share(w, c), 0);
            }
        }
        for (int c = 0; c < 4; c++) {
            Check.due("new: store of " + c, x.share(WeaveShares.NONE, c), 0);
        }
        for (int i = 0; i < 12; i++) {
            Check.due("new: count(" + i + ")", x.count(i), 0);
        }
        int[] settings = {0, 1, 5, 1};
        for (int i = 0; i < 4; i++) {
            Check.due("new: setting(" + i + ")", x.setting(i), settings[i]);
        }
        Check.due("new: orderOf(0, 0)", x.orderOf(0, 0), -1);
        Check.due("new: clearBuffer()", x.clearBuffer(), 0);
        Check.due("new: evenness()", x.evenness(), 1.0);
        Check.due("NONE", WeaveShares.NONE, -1);
        // Two objects know nothing of each other.
        WeaveShares y = new WeaveShares();
        x.store(0, 5);
        x.set(3, 7);
        x.append('1');
        Check.due("other object: store", y.share(-1, 0), 0);
        Check.due("other object: setting(3)", y.setting(3), 1);
        Check.due("other object: clearBuffer()", y.clearBuffer(), 0);
    }

    private static void loom() {
        WeaveShares x = new WeaveShares();
        Check.undoable("loom(0, 40, 1, 0)", x, () -> x.loom(0, 40, 1, 0), 0);
        Check.due("width", x.weaver(0, 0), 40);
        Check.due("speed", x.weaver(0, 1), 1);
        Check.due("care", x.weaver(0, 2), 0);
        Check.undoable("loom(0, 200, 9, 99)", x, () -> x.loom(0, 200, 9, 99), 40);
        Check.due("width", x.weaver(0, 0), 200);
        Check.due("speed", x.weaver(0, 1), 9);
        Check.due("care", x.weaver(0, 2), 99);
        Check.due("looms", x.count(9), 1);
        Check.undoable("loom(5, 123, 4, 5)", x, () -> x.loom(5, 123, 4, 5), 0);
        Check.due("looms", x.count(9), 2);
        // Without a loom, speed and care do not matter.
        Check.undoable("loom(0, 0, 99, -5)", x, () -> x.loom(0, 0, 99, -5), 200);
        Check.due("width", x.weaver(0, 0), 0);
        Check.due("speed", x.weaver(0, 1), 0);
        Check.due("care", x.weaver(0, 2), 0);
        Check.due("looms", x.count(9), 1);
        Check.undoable("loom(0, 0, MIN, MAX)", x,
                () -> x.loom(0, 0, Integer.MIN_VALUE, Integer.MAX_VALUE), 0);
    }

    private static void loomRefused() {
        WeaveShares x = new WeaveShares();
        x.loom(2, 100, 5, 7);
        int[] noWeaver = {-1, 6, Integer.MIN_VALUE, Integer.MAX_VALUE};
        for (int w : noWeaver) {
            Check.index("loom of " + w, x, () -> x.loom(w, 100, 5, 7));
            Check.index("loom of " + w + " with a wrong width", x, () -> x.loom(w, 39, 0, -1));
        }
        int[] noWidth = {-1, 1, 39, 201, Integer.MIN_VALUE, Integer.MAX_VALUE};
        for (int width : noWidth) {
            Check.argument("loom width " + width, x, () -> x.loom(2, width, 5, 7));
        }
        int[] noSpeed = {0, -1, 10, Integer.MIN_VALUE, Integer.MAX_VALUE};
        for (int speed : noSpeed) {
            Check.argument("loom speed " + speed, x, () -> x.loom(2, 100, speed, 7));
        }
        int[] noCare = {-1, 100, Integer.MIN_VALUE, Integer.MAX_VALUE};
        for (int care : noCare) {
            Check.argument("loom care " + care, x, () -> x.loom(2, 100, 5, care));
        }
    }

    private static void yarn() {
        WeaveShares x = new WeaveShares();
        Check.undoable("yarn(0, 0, 9999)", x, () -> x.yarn(0, 0, 9999), 9999);
        Check.state("yarn(0, 0, 1)", x, () -> x.yarn(0, 0, 1));
        Check.state("yarn(0, 0, 9999)", x, () -> x.yarn(0, 0, 9999));
        Check.undoable("yarn(0, 0, 0)", x, () -> x.yarn(0, 0, 0), 9999);
        Check.due("yarn(0, 0, -9999)", x.yarn(0, 0, -9999), 0);
        Check.state("yarn(0, 0, -1)", x, () -> x.yarn(0, 0, -1));
        Check.due("yarn(5, 3, 17)", x.yarn(5, 3, 17), 17);
        Check.undoable("yarn(5, 3, -7)", x, () -> x.yarn(5, 3, -7), 10);
        Check.due("share(5, 3)", x.share(5, 3), 10);
        Check.due("share(5, 2)", x.share(5, 2), 0);
        Check.due("share(4, 3)", x.share(4, 3), 0);
        Check.due("store", x.share(-1, 3), 0);
        int[] wrong = {Integer.MIN_VALUE, -10000, 10000, Integer.MAX_VALUE};
        for (int grams : wrong) {
            Check.argument("yarn of " + grams, x, () -> x.yarn(5, 3, grams));
            Check.index("yarn of " + grams + ", weaver 6", x, () -> x.yarn(6, 3, grams));
            Check.index("yarn of " + grams + ", colour 4", x, () -> x.yarn(5, 4, grams));
        }
        Check.index("yarn(-1, 0, 1)", x, () -> x.yarn(-1, 0, 1));
        Check.index("yarn(6, 0, 1)", x, () -> x.yarn(6, 0, 1));
        Check.index("yarn(0, -1, 1)", x, () -> x.yarn(0, -1, 1));
        Check.index("yarn(0, 4, -1)", x, () -> x.yarn(0, 4, -1));
    }

    private static void store() {
        WeaveShares x = new WeaveShares();
        Check.undoable("store(3, 1)", x, () -> x.store(3, 1), 1);
        Check.undoable("store(3, 9998)", x, () -> x.store(3, 9998), 9999);
        for (int i = 2; i <= 10; i++) {
            Check.due("store(3, 9999)", x.store(3, 9999), 9999 * i);
        }
        Check.state("store(3, 9999) over", x, () -> x.store(3, 9999));
        Check.state("store(3, 10) over", x, () -> x.store(3, 10));
        Check.due("store(3, 9)", x.store(3, 9), 99999);
        Check.state("store(3, 1) over", x, () -> x.store(3, 1));
        Check.due("share(NONE, 3)", x.share(-1, 3), 99999);
        Check.due("share(NONE, 2)", x.share(-1, 2), 0);
        int[] wrong = {Integer.MIN_VALUE, -1, 0, 10000, Integer.MAX_VALUE};
        for (int grams : wrong) {
            Check.argument("store of " + grams, x, () -> x.store(3, grams));
            Check.index("store of " + grams + ", colour 4", x, () -> x.store(4, grams));
        }
        Check.index("store(-1, 1)", x, () -> x.store(-1, 1));
        Check.index("store(4, 1)", x, () -> x.store(4, 1));
    }

    private static void give() {
        WeaveShares x = new WeaveShares();
        x.yarn(1, 2, 9999);
        Check.undoable("give(1, 4, 2, 9000)", x, () -> x.give(1, 4, 2, 9000), 9000);
        Check.due("share(1, 2)", x.share(1, 2), 999);
        Check.due("share(4, 2)", x.share(4, 2), 9000);
        Check.due("give(1, 4, 2, 999)", x.give(1, 4, 2, 999), 9999);
        Check.due("share(1, 2)", x.share(1, 2), 0);
        Check.due("give(4, 1, 2, 9999)", x.give(4, 1, 2, 9999), 9999);
        x.yarn(4, 2, 9998);
        Check.due("give(1, 4, 2, 1)", x.give(1, 4, 2, 1), 9999);
        Check.state("give(1, 4, 2, 1), too many", x, () -> x.give(1, 4, 2, 1));
        Check.due("count(8)", x.count(8), 0);
        Check.due("give(4, 5, 2, 3)", x.give(4, 5, 2, 3), 3);
        Check.due("give(5, 0, 2, 2)", x.give(5, 0, 2, 2), 2);
        Check.due("give(0, 3, 2, 1)", x.give(0, 3, 2, 1), 1);
        Check.due("share(5, 2)", x.share(5, 2), 1);
        Check.due("share(0, 2)", x.share(0, 2), 1);
    }

    private static void giveRefused() {
        WeaveShares x = new WeaveShares();
        x.yarn(1, 2, 50);
        Check.state("give(1, 0, 2, 51)", x, () -> x.give(1, 0, 2, 51));
        Check.state("give(1, 0, 3, 1)", x, () -> x.give(1, 0, 3, 1));
        Check.argument("give(1, 1, 2, 1)", x, () -> x.give(1, 1, 2, 1));
        Check.argument("give(1, 1, 2, 99)", x, () -> x.give(1, 1, 2, 99));
        int[] wrong = {Integer.MIN_VALUE, -1, 0, 10000, Integer.MAX_VALUE};
        for (int grams : wrong) {
            Check.argument("give of " + grams, x, () -> x.give(1, 0, 2, grams));
            Check.argument("give of " + grams + " to itself", x, () -> x.give(1, 1, 2, grams));
            Check.index("give of " + grams + " by 6", x, () -> x.give(6, 6, 2, grams));
        }
        Check.index("give(-1, 0, 2, 1)", x, () -> x.give(-1, 0, 2, 1));
        Check.index("give(1, -1, 2, 1)", x, () -> x.give(1, -1, 2, 1));
        Check.index("give(1, 6, 2, 1)", x, () -> x.give(1, 6, 2, 1));
        Check.index("give(6, 0, 2, 1)", x, () -> x.give(6, 0, 2, 1));
        Check.index("give(7, 0, 2, 1)", x, () -> x.give(7, 0, 2, 1));
        Check.index("give(0, 7, 2, 1)", x, () -> x.give(0, 7, 2, 1));
        Check.index("give(1, 0, -1, 1)", x, () -> x.give(1, 0, -1, 1));
        Check.index("give(1, 0, 4, 1)", x, () -> x.give(1, 0, 4, 1));
        Check.index("give(1, 1, 4, 1)", x, () -> x.give(1, 1, 4, 1));
    }
}
