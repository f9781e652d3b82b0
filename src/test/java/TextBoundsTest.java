/** Sentences with bounds: "Input text", and promises 10 to 13. */
public final class TextBoundsTest {
    /** Sixty characters without an error: eight parts. */
    private static final String SIXTY = "1x40c0;1x40c0;1x40c0;1x40c0;1x40c0;1x40c0;1x40c0;1x40c0@9999";

    private TextBoundsTest() {
    }

    public static void main(String[] args) {
        buffer();
        parts();
        errors();
        takeAll();
        Check.end("TextBoundsTest");
    }

    private static void buffer() {
        Check.sentence("The buffer has at most 60 characters.", TextBoundsTest::sixty);
        Check.sentence("append: `code`: the character code, 33 to 126", TextBoundsTest::codes);
        Check.sentence("if the buffer has 60 characters", TextBoundsTest::noMoreThanSixty);
        Check.sentence("append: Returns the new length of the buffer.", TextBoundsTest::newLengths);
        Check.sentence("clearBuffer: Returns the length that it had.", TextBoundsTest::clears);
    }

    private static void parts() {
        Check.sentence("one or more parts with \";\" between them", TextBoundsTest::marksBetween);
        Check.sentence("one or more parts", TextBoundsTest::laterParts);
        Check.sentence("each a length, 1 to 200", () -> numbers("", "x40c0", 3, 1, 200));
        Check.sentence("\"x\", a width, 40 to 200", () -> numbers("1x", "c0", 2, 40, 200));
        Check.sentence("\"c\" and a colour, 0 to 3", () -> numbers("1x40c", "", 1, 0, 3));
        Check.sentence("perhaps \"$\" and a price, 1 to 99", () -> numbers("1x40c0$", "", 4, 1, 99));
        Check.sentence("perhaps \"@\" and a due hour, 0 to 9999",
                () -> numbers("1x40c0@", "", 5, 0, 9999));
        Check.sentence("(10 without it)", TextBoundsTest::usualPrice);
        Check.sentence("(9999 without it)", TextBoundsTest::usualDueHour);
        Check.sentence("numbers are without leading zeros", TextBoundsTest::leadingZeros);
    }

    private static void errors() {
        Check.sentence("The buffer is read from left to right", TextBoundsTest::firstOfSeveral);
        Check.sentence("if no orders as a text, of any length, begin with the characters before it and"
                + " this character", TextBoundsTest::beginnings);
        Check.sentence("of any length", TextBoundsTest::ofAnyLength);
        Check.sentence("the length of the buffer if there is none", TextBoundsTest::noError);
        Check.sentence("this character", TextBoundsTest::everyCode);
    }

    private static void takeAll() {
        Check.sentence("one after the other", TextBoundsTest::oneAfterTheOther);
        Check.sentence("all or none", TextBoundsTest::allOrNone);
        Check.sentence("and clears the buffer", TextBoundsTest::takingClears);
        Check.sentence("Returns how many orders there are then.", TextBoundsTest::howManyThen);
        Check.sentence("if the buffer is not complete orders as a text", TextBoundsTest::notComplete);
        Check.sentence("if there would be more than 10", TextBoundsTest::moreThanTen);
    }

    private static void sixty() {
        WeaveShares x = Made.buffered(SIXTY);
        Check.due("firstError() of sixty", x.firstError(), 60);
        Check.due("takeAll() of sixty", x.takeAll(), 8);
        for (int place = 0; place < 8; place++) {
            Check.due("number at " + place, x.orderOf(place, 0), place);
            Check.due("due hour at " + place, x.orderOf(place, 5), 9999);
        }
        Check.due("append to the cleared buffer", x.append('1'), 1);
        // The sixtieth character counts: it is the error here, or what is missing.
        String most = SIXTY.substring(0, 59);
        Check.due("firstError() with a wrong end", Made.buffered(most + "x").firstError(), 59);
    }

    private static void codes() {
        for (int code : new int[] {33, 34, 64, 125, 126}) {
            WeaveShares x = new WeaveShares();
            Check.due("append(" + code + ")", x.append(code), 1);
            Check.due("clearBuffer()", x.clearBuffer(), 1);
        }
        Check.argumentEach("append", Made::busy, Made.outside(33, 126), WeaveShares::append);
        Check.argumentEach("append", Made::busy, new int[] {-1, 0, 10, 31, 128, 160, 255, 256 + 50,
            65536 + 50}, WeaveShares::append);
    }

    private static void noMoreThanSixty() {
        Check.due("the sixtieth", Made.buffered(SIXTY.substring(0, 59)).append('9'), 60);
        Check.refusesState("the 61st", () -> Made.buffered(SIXTY), x -> x.append('9'));
        Check.refusesState("the 61st, of a text with errors", () -> {
            WeaveShares x = Made.busy();
            for (int length = x.append('!'); length < 60; length = x.append('~')) {
                Check.that("a length below 60", length < 60);
            }
            return x;
        }, x -> x.append('!'));
        // Behind takeAll and clearBuffer there is room for sixty again.
        WeaveShares y = Made.buffered(SIXTY);
        y.clearBuffer();
        Check.append(y, SIXTY);
        y.takeAll();
        Check.append(y, SIXTY);
        Check.state("the 61st", y, () -> y.append('1'));
        Check.due("clearBuffer()", y.clearBuffer(), 60);
    }

    private static void newLengths() {
        WeaveShares x = new WeaveShares();
        for (int i = 1; i <= 60; i++) {
            Check.due("append", x.append(33 + i), i);
        }
    }

    private static void clears() {
        for (int length = 0; length <= 60; length += 15) {
            WeaveShares x = Made.buffered(SIXTY.substring(0, length));
            Check.due("clearBuffer() of " + length, x.clearBuffer(), length);
            Check.due("clearBuffer() again", x.clearBuffer(), 0);
            Check.due("firstError()", x.firstError(), 0);
            Check.due("append", x.append('7'), 1);
        }
        // What was there before the clearing is not read.
        WeaveShares y = Made.buffered("!!!");
        y.clearBuffer();
        Check.append(y, "5");
        Check.due("firstError() of 5", y.firstError(), 1);
        Check.append(y, "x50c1");
        Check.due("takeAll()", y.takeAll(), 1);
        Check.refusesArgument("takeAll() of what lacks what was cleared", () -> {
            WeaveShares x = Made.buffered("1x40c0");
            x.clearBuffer();
            Check.append(x, "1x40c");
            return x;
        }, WeaveShares::takeAll);
        WeaveShares z = Made.buffered("1x40c0;");
        z.clearBuffer();
        Check.append(z, "1x40c0");
        Check.due("takeAll() without the cleared \";\"", z.takeAll(), 1);
    }

    private static void error(String text, int want) {
        Check.due("firstError() of " + text, Made.buffered(text).firstError(), want);
    }

    private static void taken(String text, int orders) {
        WeaveShares x = Made.buffered(text);
        Check.due("firstError() of " + text, x.firstError(), text.length());
        Check.due("takeAll() of " + text, x.takeAll(), orders);
        Check.due("orders of " + text, x.count(1), orders);
    }

    /** No error, but not complete. */
    private static void begun(String text) {
        error(text, text.length());
        Check.refusesArgument("takeAll() of " + text, () -> Made.buffered(text), WeaveShares::takeAll);
    }

    private static void marksBetween() {
        taken("1x40c0", 1);
        taken("1x40c0;2x50c1", 2);
        taken("1x40c0$1;2x50c1@0;3x60c2$9@9", 3);
        begun("");
        begun("1x40c0;");
        begun("1x40c0;2x50c1;");
        error(";", 0);
        error(";1x40c0", 0);
        error("1x40c0;;1x40c0", 7);
        error("1x40c0,1x40c0", 6);
        error("1x40c01x40c0", 6);
        error("1;", 1);
        error("1x40;", 4);
        error("1x40c;", 5);
        error("1x40c0$;", 7);
        error("1x40c0@;", 7);
    }

    /** What holds for the first part holds for each one behind it. */
    private static void laterParts() {
        String[][] parts = {{"0", "0"}, {"201", "2"}, {"01", "0"}, {"1x39", "2"}, {"1x201", "4"},
            {"1x040", "2"}, {"1x40c4", "5"}, {"1x40c00", "6"}, {"1x40c0$0", "7"}, {"1x40c0$100", "9"},
            {"1x40c0$01", "7"}, {"1x40c0@10000", "11"}, {"1x40c0@00", "8"}, {"1x40c0@1$1", "8"},
            {"x", "0"}, {"1c", "1"}, {"1x40;", "4"}, {"1x40c;", "5"}};
        for (String[] one : parts) {
            int at = Integer.parseInt(one[1]);
            error(one[0], at);
            error("1x40c0;" + one[0], 7 + at);
            error("200x200c3$99@9999;1x40c0@0;" + one[0], 27 + at);
        }
        WeaveShares x = Made.buffered("1x40c0;200x200c3$99@9999;1x40c0$1@0");
        Check.due("takeAll() of the least and the greatest", x.takeAll(), 3);
        int[] want = {1, 3, 200, 200, 99, 9999};
        for (int what = 0; what < want.length; what++) {
            Check.due("orderOf(2, " + what + ")", x.orderOf(2, what), what == 0 ? 1 : want[what]);
        }
    }

    /** The numbers around the bounds, read at the property of the order. */
    private static void numbers(String before, String behind, int what, int least, int most) {
        int[] tried = {0, 1, 2, 3, 4, 5, 9, 10, 11, 19, 20, 21, 39, 40, 41, 98, 99, 100, 101, 199, 200,
            201, 299, 300, 400, 999, 1000, 1001, 2000, 9998, 9999, 10000, 10001, 20000, 99999, 100000};
        for (int number : tried) {
            String text = before + number + behind;
            if (number >= least && number <= most) {
                WeaveShares x = Made.buffered(text);
                Check.due("firstError() of " + text, x.firstError(), text.length());
                Check.due("takeAll() of " + text, x.takeAll(), 1);
                Check.due("what it was for " + text, x.orderOf(0, what), number);
            } else {
                Check.that("an error of " + text, Made.buffered(text).firstError() < text.length());
                Check.refusesArgument("takeAll() of " + text, () -> Made.buffered(text),
                        WeaveShares::takeAll);
            }
        }
    }

    /** Of parts with and without the numbers, in the order in which they stand in the text. */
    private static void usual(int what, int... want) {
        // All have the same width but another length, from 1.
        WeaveShares x = Made.buffered("1x40c0;2x40c0$99;3x40c0@9998;4x40c0$1@0;5x40c0");
        Check.due("takeAll()", x.takeAll(), 5);
        for (int place = 0; place < 5; place++) {
            int part = x.orderOf(place, 3);
            Check.due("orderOf(" + place + ", " + what + "), part " + part, x.orderOf(place, what),
                    want[part - 1]);
        }
    }

    private static void usualPrice() {
        usual(4, 10, 99, 10, 1, 10);
        WeaveShares x = Made.buffered("7x40c1@5");
        x.takeAll();
        Check.due("price of an only part", x.orderOf(0, 4), 10);
    }

    private static void usualDueHour() {
        usual(5, 9999, 9999, 9998, 0, 9999);
        WeaveShares x = Made.buffered("7x40c1$5");
        x.takeAll();
        Check.due("due hour of an only part", x.orderOf(0, 5), 9999);
    }

    private static void leadingZeros() {
        error("0", 0);
        error("01x40c0", 0);
        error("1x040c0", 2);
        error("1x40c00", 6);
        error("1x40c01", 6);
        error("1x40c0$0", 7);
        error("1x40c0$01", 7);
        error("1x40c0@00", 8);
        error("1x40c0@01", 8);
        error("1x40c0@0000", 8);
        error("1x40c0;01x40c0", 7);
        taken("1x40c0@0", 1);
        taken("10x100c0$10@1000", 1);
        taken("100x40c0$20@10", 1);
    }

    private static void firstOfSeveral() {
        error("!!", 0);
        error("1!!", 1);
        error("x1x1", 0);
        error("1x40c0;!;1x40c0;!", 7);
        error("1x40c9;1x39c0", 5);
        error("1x39c9", 2);
        error("201x40c0", 2);
        // What stands behind an error does not mend it.
        error("300x40c0;1x40c0", 2);
        error("1x40c0$0;1x40c0", 7);
    }

    /** The error is where it can be seen: at the digit, or at the mark that ends a short number. */
    private static void beginnings() {
        error("20", 2);
        error("200", 3);
        error("201", 2);
        error("2000", 3);
        error("21x", 3);
        error("210", 2);
        error("199x", 4);
        error("999", 2);
        error("1x1", 3);
        error("1x1c", 3);
        error("1x10c", 4);
        error("1x19", 4);
        error("1x19c", 4);
        error("1x190", 5);
        error("1x2", 3);
        error("1x2c", 3);
        error("1x20", 4);
        error("1x20c", 4);
        error("1x21", 3);
        error("1x200c", 6);
        error("1x201", 4);
        error("1x3", 2);
        error("1x39", 2);
        error("1x4", 3);
        error("1x4c", 3);
        error("1x9c", 3);
        error("1x99c", 5);
        error("1x400", 4);
        error("1x1999", 5);
        error("1x40c4", 5);
        error("1x40c3", 6);
        error("1x40c0$99", 9);
        error("1x40c0$100", 9);
        error("1x40c0@9999", 11);
        error("1x40c0@10000", 11);
        error("1x40c0@99990", 11);
        error("1x40c0@5$5", 8);
        error("1x40c0$5$5", 8);
        error("1x40c0@5@5", 8);
        error("1x40c0$@", 7);
        error("1x40c0@$", 7);
    }

    private static void ofAnyLength() {
        // There is no room for what is missing, but longer texts begin with these.
        String seven = SIXTY.substring(0, 49);
        begun("10x40c0$10;" + seven);
        begun(seven + "1x200c3$10@");
        begun("10x40c0;" + seven + "1x1");
        begun("10x40c0;" + seven + "200");
        // Nor does it matter how many orders there are.
        WeaveShares x = Made.full();
        Check.append(x, SIXTY);
        Check.due("firstError() with ten orders", x.firstError(), 60);
    }

    private static void noError() {
        error("", 0);
        error("1", 1);
        error("1x40c0", 6);
        error(SIXTY, 60);
        Check.due("firstError() of a new object", new WeaveShares().firstError(), 0);
    }

    /** Behind each beginning, all characters but those that are named are errors. */
    private static void everyCode() {
        String[][] fits = {{"", "123456789"}, {"1", "0123456789x"}, {"20", "0x"}, {"21", "x"},
            {"3", "0123456789x"}, {"100", "x"}, {"200", "x"}, {"1x", "12456789"},
            {"1x1", "0123456789"}, {"1x2", "0"}, {"1x4", "0123456789"}, {"1x40", "c"},
            {"1x100", "c"}, {"1x40c", "0123"}, {"1x40c0", "$@;"}, {"1x40c3", "$@;"},
            {"1x40c0$", "123456789"}, {"1x40c0$9", "0123456789@;"}, {"1x40c0$10", "@;"},
            {"1x40c0@", "0123456789"}, {"1x40c0@0", ";"}, {"1x40c0@9", "0123456789;"},
            {"1x40c0@999", "0123456789;"}, {"1x40c0@1000", ";"}, {"1x40c0;", "123456789"},
            {"1x40c0$9@", "0123456789"}, {"1x40c0$9@0", ";"}};
        for (String[] one : fits) {
            String before = one[0];
            for (int code = 33; code <= 126; code++) {
                WeaveShares x = Made.buffered(before);
                x.append(code);
                int fit = one[1].indexOf((char) code) >= 0 ? 1 : 0;
                Check.due("firstError() of " + before + (char) code, x.firstError(),
                        before.length() + fit);
            }
        }
    }

    private static void oneAfterTheOther() {
        WeaveShares x = new WeaveShares();
        x.order(0, 40, 9, 1, 7);
        Check.append(x, "1x40c0@7;2x50c1@6;3x60c2@7;4x70c3@8");
        Check.due("takeAll()", x.takeAll(), 5);
        int[][] want = {{2, 2}, {0, 9}, {1, 1}, {3, 3}, {4, 4}};
        for (int place = 0; place < 5; place++) {
            Check.due("number at " + place, x.orderOf(place, 0), want[place][0]);
            Check.due("length at " + place, x.orderOf(place, 3), want[place][1]);
            Check.due("good at " + place, x.orderOf(place, 6), 0);
        }
    }

    private static WeaveShares withOrders(int orders, String text) {
        WeaveShares x = new WeaveShares();
        for (int i = 0; i < orders; i++) {
            x.order(1, 50, 5, 5, 5);
        }
        Check.append(x, text);
        return x;
    }

    private static void allOrNone() {
        // The last part is wrong, or not complete, or one too many.
        Check.refusesArgument("takeAll()", () -> withOrders(3, "1x40c0;1x40c0;1x40c4"),
                WeaveShares::takeAll);
        Check.refusesArgument("takeAll()", () -> withOrders(3, "1x40c0;1x40c0;1x40c"),
                WeaveShares::takeAll);
        Check.refusesState("takeAll()", () -> withOrders(8, "1x40c0;1x40c0;1x40c0"),
                WeaveShares::takeAll);
        WeaveShares x = withOrders(8, "1x40c0;1x40c0;1x40c0");
        Check.state("takeAll()", x, x::takeAll);
        Check.due("the buffer stays", x.append(';'), 21);
        Check.due("and so do the numbers", x.order(0, 40, 1, 1, 0), 8);
    }

    private static void takingClears() {
        WeaveShares x = Made.buffered("1x40c0;1x40c0");
        x.takeAll();
        Check.due("firstError()", x.firstError(), 0);
        Check.argument("takeAll() again", x, x::takeAll);
        Check.due("append", x.append('1'), 1);
        Check.due("clearBuffer()", x.clearBuffer(), 1);
    }

    private static void howManyThen() {
        Check.due("takeAll() of 1 with none", withOrders(0, "1x40c0").takeAll(), 1);
        Check.due("takeAll() of 2 with none", withOrders(0, "1x40c0;1x40c0").takeAll(), 2);
        Check.due("takeAll() of 1 with 7", withOrders(7, "1x40c0").takeAll(), 8);
        Check.due("takeAll() of 8 with 2", withOrders(2, SIXTY).takeAll(), 10);
        WeaveShares x = withOrders(5, "1x40c0;1x40c0");
        x.cancel(0);
        x.cancel(4);
        Check.due("takeAll() of 2 with 3 of 5", x.takeAll(), 5);
    }

    private static void notComplete() {
        String[] begun = {"", "1", "12", "1x", "1x4", "1x40", "1x200", "1x40c", "1x40c0$", "1x40c0@",
            "1x40c0$5@", "1x40c0;", "1x40c0;1", "1x40c0;1x", "1x40c0;1x40", "1x40c0;1x40c",
            "1x40c0;1x40c0$", "1x40c0;1x40c0@"};
        for (String text : begun) {
            begun(text);
        }
        String[] wrong = {"!", "x", ";", "1x40c0!", "1x40c0;;", "1x39c0", "1x40c4", "0x40c0",
            "201x40c0", "1x201c0", "1x40c0$0", "1x40c0$100", "1x40c0@10000", "1X40C0", "1x40c0;x"};
        for (String text : wrong) {
            Check.that("an error of " + text, Made.buffered(text).firstError() < text.length());
            Check.refusesArgument("takeAll() of " + text, () -> Made.buffered(text),
                    WeaveShares::takeAll);
        }
    }

    private static void moreThanTen() {
        Check.due("takeAll() of 1 with 9", withOrders(9, "1x40c0").takeAll(), 10);
        Check.due("takeAll() of 2 with 8", withOrders(8, "1x40c0;1x40c0").takeAll(), 10);
        Check.refusesState("takeAll() of 1 with 10", () -> withOrders(10, "1x40c0"),
                WeaveShares::takeAll);
        Check.refusesState("takeAll() of 2 with 9", () -> withOrders(9, "1x40c0;1x40c0"),
                WeaveShares::takeAll);
        Check.refusesState("takeAll() of 8 with 3", () -> withOrders(3, SIXTY), WeaveShares::takeAll);
        Check.refusesState("takeAll() of 8 with 10", () -> withOrders(10, SIXTY),
                WeaveShares::takeAll);
    }
}
