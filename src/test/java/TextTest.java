/** Promises 10 to 14: append, clearBuffer, firstError, takeAll, undo. */
public final class TextTest {
    private TextTest() {
    }

    public static void main(String[] args) {
        append();
        clearBuffer();
        firstError();
        everyNumber();
        everyMark();
        takeAll();
        usualValues();
        takeAllRefused();
        tooMany();
        undo();
        undoOfNumbers();
        Check.end("TextTest");
    }

    private static void append() {
        WeaveShares x = new WeaveShares();
        int[] wrong = {Integer.MIN_VALUE, -1, 0, 10, 32, 127, 128, 255, Integer.MAX_VALUE};
        for (int code : wrong) {
            Check.argument("append(" + code + ")", x, () -> x.append(code));
        }
        Check.due("append(33)", x.append(33), 1);
        Check.due("append(126)", x.append(126), 2);
        for (int i = 3; i <= 60; i++) {
            Check.due("append(65)", x.append(65), i);
        }
        Check.state("append(65) at 60", x, () -> x.append(65));
        Check.argument("append(32) at 60", x, () -> x.append(32));
        Check.argument("append(127) at 60", x, () -> x.append(127));
        Check.due("appending saves nothing", x.count(11), 0);
        WeaveShares y = new WeaveShares();
        Check.append(y, "1x2");
        long hash = y.digest();
        y.clearBuffer();
        Check.append(y, "1x3");
        Check.due("the digest knows the last code", y.digest() - hash, 1);
    }

    private static void clearBuffer() {
        WeaveShares x = new WeaveShares();
        Check.due("clearBuffer()", x.clearBuffer(), 0);
        Check.append(x, "12x");
        Check.due("clearBuffer()", x.clearBuffer(), 3);
        Check.due("clearBuffer()", x.clearBuffer(), 0);
        for (int i = 0; i < 60; i++) {
            x.append('!');
        }
        Check.due("clearBuffer()", x.clearBuffer(), 60);
        Check.due("append", x.append('1'), 1);
        Check.due("clearing saves nothing", x.count(11), 0);
    }

    private static void error(String text, int want) {
        WeaveShares x = new WeaveShares();
        Check.append(x, text);
        Check.look("firstError() of " + text, x, x::firstError, want);
    }

    private static void fine(String text) {
        error(text, text.length());
    }

    private static void firstError() {
        fine("");
        fine("1");
        fine("1x40c0");
        fine("200x200c3$99@9999");
        fine("1x40c0;");
        fine("1x40c0;2x50c1$7;3x60c2@8;4x70c3$9@10;5x80c0@0");
        error("1x40c0$5$6", 8);
        error("1x40c0@5$6", 8);
        error("1x40c0@5@6", 8);
        error("1x40c0@@", 7);
        error("1x40c0$@5", 7);
        error("1x40c0;;", 7);
        error(";", 0);
        error("x", 0);
        error("1xx", 2);
        error("1c", 1);
        error("1;", 1);
        error("1X40", 1);
        error("1x40c0;x", 7);
        error("1x40;", 4);
        error("1x40x", 4);
        error("1x40c;", 5);
        error("1x40c01", 6);
        error("1x40c0c", 6);
        error("1x40c0x", 6);
        error("1x40c0$9;1x40c4", 14);
        error("+1", 0);
        error("1x-40", 2);
    }

    /** Every number of up to five digits, in every place, ended by the sign behind it. */
    private static void everyNumber() {
        numbers("", 'x', 1, 200);
        numbers("7x", 'c', 40, 200);
        numbers("7x77c", ';', 0, 3);
        numbers("7x77c", '$', 0, 3);
        numbers("7x77c", '@', 0, 3);
        numbers("7x77c0$", '@', 1, 99);
        numbers("7x77c0$", ';', 1, 99);
        numbers("7x77c0@", ';', 0, 9999);
        numbers("7x77c0$9@", ';', 0, 9999);
        numbers("7x77c0;", 'x', 1, 200);
    }

    private static void numbers(String before, char behind, int least, int most) {
        for (int number = 0; number <= 11000; number += number < 1100 ? 1 : 97) {
            for (String zeros : new String[] {"", "0"}) {
                String digits = zeros + number;
                WeaveShares x = new WeaveShares();
                Check.append(x, before + digits + behind);
                int want = before.length() + firstWrong(digits, least, most);
                Check.due("firstError() of " + before + digits + behind, x.firstError(), want);
            }
        }
    }

    /** The first index at which no number of the range begins so, or, behind the digits, is so. */
    private static int firstWrong(String digits, int least, int most) {
        for (int i = 1; i <= digits.length(); i++) {
            if (!begins(digits.substring(0, i), least, most)) {
                return i - 1;
            }
        }
        boolean whole = false;
        for (int n = least; n <= most; n++) {
            whole = whole || digits.equals(String.valueOf(n));
        }
        return whole ? digits.length() + 1 : digits.length();
    }

    private static boolean begins(String digits, int least, int most) {
        for (int n = least; n <= most; n++) {
            if (String.valueOf(n).startsWith(digits)) {
                return true;
            }
        }
        return false;
    }

    /** Behind each of these every character but those named is an error. */
    private static void everyMark() {
        marks("", "123456789");
        marks("1", "0123456789x");
        marks("2", "0123456789x");
        marks("20", "0x");
        marks("3", "0123456789x");
        marks("99", "x");
        marks("200", "x");
        marks("1x", "12456789");
        marks("1x1", "0123456789");
        marks("1x2", "0");
        marks("1x20", "0");
        marks("1x200", "c");
        marks("1x39", "");
        marks("1x40", "c");
        marks("1x4", "0123456789");
        marks("1x40c", "0123");
        marks("1x40c0", "$@;");
        marks("1x40c3", "$@;");
        marks("1x40c3$", "123456789");
        marks("1x40c3$9", "0123456789@;");
        marks("1x40c3$99", "@;");
        marks("1x40c3@", "0123456789");
        marks("1x40c3@0", ";");
        marks("1x40c3@1", "0123456789;");
        marks("1x40c3@1234", ";");
        marks("1x40c3$9@", "0123456789");
        marks("1x40c3;", "123456789");
    }

    private static void marks(String before, String fit) {
        for (int code = 33; code <= 126; code++) {
            WeaveShares x = new WeaveShares();
            Check.append(x, before);
            x.append(code);
            boolean stands = fit.indexOf((char) code) >= 0 && !before.equals("1x39");
            int want = stands ? before.length() + 1 : before.equals("1x39") ? 2 : before.length();
            Check.due("firstError() of " + before + (char) code, x.firstError(), want);
        }
    }

    private static void takeAll() {
        WeaveShares x = new WeaveShares();
        x.order(3, 100, 10, 5, 5);
        long before = x.digest();
        Check.append(x, "12x120c1$34@4;200x40c2;7x200c0@5");
        Check.due("takeAll()", x.takeAll(), 4);
        Check.due("the buffer is cleared", x.clearBuffer(), 0);
        Check.due("saved as one call", x.count(11), 2);
        int[][] want = {
            {1, 1, 120, 12, 34, 4, 0, 144, 0}, {0, 3, 100, 10, 5, 5, 0, 100, 0},
            {3, 0, 200, 7, 10, 5, 0, 140, 0}, {2, 2, 40, 200, 10, 9999, 0, 800, 0}};
        for (int place = 0; place < 4; place++) {
            for (int what = 0; what < 9; what++) {
                Check.due("orderOf(" + place + ", " + what + ")", x.orderOf(place, what),
                        want[place][what]);
            }
        }
        Check.due("undo()", x.undo(), 1);
        Check.that("takeAll is not undone", before == x.digest());
    }

    private static void usualValues() {
        WeaveShares x = new WeaveShares();
        // What one part names does not go over to the next one.
        Check.append(x, "1x40c0$99@7;2x50c1;3x60c2$8;4x70c3@6");
        Check.due("takeAll()", x.takeAll(), 4);
        int[][] want = {{3, 10, 6}, {0, 99, 7}, {1, 10, 9999}, {2, 8, 9999}};
        for (int place = 0; place < 4; place++) {
            Check.due("number at " + place, x.orderOf(place, 0), want[place][0]);
            Check.due("price at " + place, x.orderOf(place, 4), want[place][1]);
            Check.due("due hour at " + place, x.orderOf(place, 5), want[place][2]);
        }
    }

    private static void takeAllRefused() {
        String[] wrong = {"", "1", "1x", "1x4", "1x40", "1x40c", "1x40c0$", "1x40c0@", "1x40c0$5@",
            "1x40c0;", "1x40c0;1", "1x40c0;1x40", "x", "1x40c0;;", "1x39c0", "1x40c0$0", "1x40c4",
            "1x40c0;1x40c0!", "1x40c0!1x40c0", "201x40c0", "01x40c0", "1x040c0", "1x40c0@05", "1x2c0"};
        for (String text : wrong) {
            WeaveShares x = new WeaveShares();
            Check.append(x, text);
            Check.argument("takeAll() of " + text, x, x::takeAll);
            Check.due("the buffer stays", x.clearBuffer(), text.length());
        }
    }

    private static void tooMany() {
        WeaveShares x = new WeaveShares();
        for (int i = 0; i < 8; i++) {
            x.order(0, 40, 1, 1, 1);
        }
        Check.append(x, "1x40c0;1x40c0;1x40c0");
        Check.state("takeAll() of 3 with 8", x, x::takeAll);
        x.append('$');
        Check.argument("takeAll() of wrong ones with 8", x, x::takeAll);
        x.append('9');
        x.cancel(0);
        Check.due("takeAll() of 3 with 7", x.takeAll(), 10);
        Check.append(x, "1x40c0");
        Check.state("takeAll() of 1 with 10", x, x::takeAll);
        Check.due("the buffer stays", x.clearBuffer(), 6);
        Check.argument("takeAll() of none with 10", x, x::takeAll);
        WeaveShares y = new WeaveShares();
        Check.append(y, "1x40c0;1x40c0;1x40c0;1x40c0;1x40c0;1x40c0;1x40c0;1x40c0");
        Check.due("takeAll() of 8", y.takeAll(), 8);
    }

    private static void undo() {
        WeaveShares x = new WeaveShares();
        Check.state("undo() of nothing", x, x::undo);
        for (int i = 1; i <= 9; i++) {
            x.store(0, i);
            Check.due("saved states", x.count(11), Math.min(i, 6));
        }
        int[] left = {36, 28, 21, 15, 10, 6};
        for (int i = 0; i < 6; i++) {
            Check.due("undo()", x.undo(), 5 - i);
            Check.due("store", x.share(-1, 0), left[i]);
        }
        Check.state("undo() of no more", x, x::undo);
        x.set(1, 1);
        Check.due("saved though nothing changed", x.count(11), 1);
        Check.due("undo()", x.undo(), 0);
        // Between the calls, undo takes but one back; what is saved behind it stands on the older ones.
        for (int i = 0; i < 8; i++) {
            x.yarn(0, 0, 1);
        }
        x.undo();
        x.undo();
        x.yarn(0, 1, 5);
        Check.due("saved states", x.count(11), 5);
        Check.due("undo()", x.undo(), 4);
        Check.due("share", x.share(0, 0), 6);
        Check.due("share of the other colour", x.share(0, 1), 0);
        x.append('1');
        x.append('x');
        Check.due("undo()", x.undo(), 3);
        Check.due("the buffer stays", x.clearBuffer(), 2);
        Check.due("share", x.share(0, 0), 5);
    }

    private static void undoOfNumbers() {
        WeaveShares x = new WeaveShares();
        x.order(0, 40, 1, 1, 1);
        x.order(0, 40, 1, 1, 1);
        x.undo();
        Check.due("the number is given again", x.order(1, 50, 2, 2, 2), 1);
        x.cancel(1);
        Check.due("but not of one that is cancelled", x.order(0, 40, 1, 1, 1), 2);
        x.loom(0, 100, 9, 0);
        x.yarn(0, 0, 100);
        x.pass(2);
        Check.due("done", x.count(2), 2);
        x.undo();
        Check.due("done", x.count(2), 0);
        Check.due("hours", x.count(0), 0);
        Check.due("orders", x.count(1), 2);
        Check.due("next number", x.order(0, 40, 1, 1, 1), 3);
    }
}
