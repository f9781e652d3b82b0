/** A weaver cooperative with yarn shares, split orders and faults in cloth. */
public final class WeaveShares {
    public static final int NONE = -1;

    private static final int WEAVERS = 6;
    private static final int COLOURS = 4;
    private static final int MOST_ORDERS = 10;
    private static final int MOST_SAVED = 6;
    private static final int MOST_CODES = 60;

    private static final int LEAST_WIDTH = 40;
    private static final int MOST_WIDTH = 200;
    private static final int MOST_SPEED = 9;
    private static final int MOST_CARE = 99;
    private static final int MOST_SHARE = 9999;
    private static final int MOST_STOCK = 99999;
    private static final int MOST_LENGTH = 200;
    private static final int MOST_PRICE = 99;
    private static final int MOST_HOUR = 9999;
    private static final int MOST_PASSED = 99;
    private static final int MOST_FORESEEN = 200;

    private static final int RULE = 0;
    private static final int LENDS = 1;
    private static final int LATE_COST = 2;
    private static final int GRAM_COST = 3;
    private static final int SETTINGS = 4;
    private static final int[] MOST_VALUES = {2, 1, 50, 9};

    private static final int BY_WIDTH = 1;
    private static final int BY_PRICE = 2;

    private static final int DEBT = 3;
    private static final int WOVEN = 5;
    private static final int FAULTS = 6;

    private static final int WEAVER_PROPERTIES = 8;
    private static final int ORDER_PROPERTIES = 9;
    private static final int COUNTS = 12;
    private static final int FORESEEN = 5;

    private final Hall hall = new Hall();
    private final Hall trial = new Hall();
    private final Hall[] saved = new Hall[MOST_SAVED];
    private final int[] buffer = new int[MOST_CODES];
    private final OrderReader reader = new OrderReader();
    /** Behind how many hours the order at each place would be done; written anew by each use. */
    private final int[] ends = new int[MOST_ORDERS];
    private int savedCount;
    private int bufferLength;

    public WeaveShares() {
        for (int i = 0; i < saved.length; i++) {
            saved[i] = new Hall();
        }
    }

    // ---- weavers, yarn

    public int loom(int weaver, int width, int speed, int care)
            throws IndexOutOfBoundsException, IllegalArgumentException {
        if (!isWithin(weaver, 0, WEAVERS - 1)) {
            throw new IndexOutOfBoundsException("no such weaver");
        }
        if (width != 0 && !isLoom(width, speed, care)) {
            throw new IllegalArgumentException("no such loom");
        }
        saveState();
        Weaver owner = hall.weavers[weaver];
        int previous = owner.width;
        owner.width = width;
        owner.speed = width == 0 ? 0 : speed;
        owner.care = width == 0 ? 0 : care;
        return previous;
    }

    public int yarn(int weaver, int colour, int grams)
            throws IndexOutOfBoundsException, IllegalArgumentException, IllegalStateException {
        if (!isWithin(weaver, 0, WEAVERS - 1) || !isWithin(colour, 0, COLOURS - 1)) {
            throw new IndexOutOfBoundsException("no such weaver or colour");
        }
        if (!isWithin(grams, -MOST_SHARE, MOST_SHARE)) {
            throw new IllegalArgumentException("grams out of range");
        }
        Yarn share = hall.weavers[weaver].share;
        if (!isWithin(share.of(colour) + grams, 0, MOST_SHARE)) {
            throw new IllegalStateException("share out of range");
        }
        saveState();
        return share.add(colour, grams);
    }

    public int store(int colour, int grams)
            throws IndexOutOfBoundsException, IllegalArgumentException, IllegalStateException {
        if (!isWithin(colour, 0, COLOURS - 1)) {
            throw new IndexOutOfBoundsException("no such colour");
        }
        if (!isWithin(grams, 1, MOST_SHARE)) {
            throw new IllegalArgumentException("grams out of range");
        }
        if (hall.stock.of(colour) + grams > MOST_STOCK) {
            throw new IllegalStateException("the store would be too full");
        }
        saveState();
        return hall.stock.add(colour, grams);
    }

    public int give(int weaver, int other, int colour, int grams)
            throws IndexOutOfBoundsException, IllegalArgumentException, IllegalStateException {
        if (!isWithin(weaver, 0, WEAVERS - 1) || !isWithin(other, 0, WEAVERS - 1)
                || !isWithin(colour, 0, COLOURS - 1)) {
            throw new IndexOutOfBoundsException("no such weaver or colour");
        }
        if (weaver == other || !isWithin(grams, 1, MOST_SHARE)) {
            throw new IllegalArgumentException("same weaver, or grams out of range");
        }
        Yarn from = hall.weavers[weaver].share;
        Yarn to = hall.weavers[other].share;
        if (from.of(colour) < grams || to.of(colour) + grams > MOST_SHARE) {
            throw new IllegalStateException("share out of range");
        }
        saveState();
        from.add(colour, -grams);
        return to.add(colour, grams);
    }

    // ---- orders

    public int order(int colour, int width, int length, int price, int due)
            throws IndexOutOfBoundsException, IllegalArgumentException, IllegalStateException {
        if (!isWithin(colour, 0, COLOURS - 1)) {
            throw new IndexOutOfBoundsException("no such colour");
        }
        if (!isWithin(width, LEAST_WIDTH, MOST_WIDTH) || !isWithin(length, 1, MOST_LENGTH)
                || !isWithin(price, 1, MOST_PRICE) || !isWithin(due, 0, MOST_HOUR)) {
            throw new IllegalArgumentException("no such order can be taken");
        }
        if (hall.orderCount >= MOST_ORDERS) {
            throw new IllegalStateException("too many orders");
        }
        saveState();
        return hall.take(colour, width, length, price, due);
    }

    public int cancel(int number) throws IndexOutOfBoundsException {
        Order order = hall.find(number);
        if (order == null) {
            throw new IndexOutOfBoundsException("no such order");
        }
        saveState();
        int good = order.good;
        hall.dismiss(order);
        return good;
    }

    public int set(int setting, int value)
            throws IndexOutOfBoundsException, IllegalArgumentException {
        if (!isWithin(setting, 0, SETTINGS - 1)) {
            throw new IndexOutOfBoundsException("no such setting");
        }
        if (!isWithin(value, 0, MOST_VALUES[setting])) {
            throw new IllegalArgumentException("value out of range");
        }
        saveState();
        int previous = hall.settings[setting];
        hall.settings[setting] = value;
        return previous;
    }

    public int pass(int hours) throws IllegalArgumentException, IllegalStateException {
        if (!isWithin(hours, 1, MOST_PASSED)) {
            throw new IllegalArgumentException("hours out of range");
        }
        if (hall.hours + hours > MOST_HOUR) {
            throw new IllegalStateException("too many hours");
        }
        saveState();
        int before = hall.done;
        for (int i = 0; i < hours; i++) {
            hall.passHour();
        }
        return hall.done - before;
    }

    // ---- texts

    public int append(int code) throws IllegalArgumentException, IllegalStateException {
        if (!isWithin(code, 33, 126)) {
            throw new IllegalArgumentException("no such character");
        }
        if (!isWithin(bufferLength, 0, buffer.length - 1)) {
            throw new IllegalStateException("the buffer is full");
        }
        buffer[bufferLength] = code;
        bufferLength++;
        return bufferLength;
    }

    public int clearBuffer() {
        int length = bufferLength;
        bufferLength = 0;
        return length;
    }

    public int firstError() {
        return readBuffer();
    }

    public int takeAll() throws IllegalArgumentException, IllegalStateException {
        if (readBuffer() < bufferLength || !reader.isComplete()) {
            throw new IllegalArgumentException("not complete orders as a text");
        }
        if (hall.orderCount + reader.parts > MOST_ORDERS) {
            throw new IllegalStateException("too many orders");
        }
        saveState();
        takeParts();
        bufferLength = 0;
        return hall.orderCount;
    }

    public int undo() throws IllegalStateException {
        if (!isWithin(savedCount, 1, saved.length)) {
            throw new IllegalStateException("no state is saved");
        }
        savedCount--;
        hall.copyFrom(saved[savedCount]);
        return savedCount;
    }

    // ---- looks; nothing is changed

    public int weaver(int weaver, int what)
            throws IndexOutOfBoundsException, IllegalArgumentException {
        if (!isWithin(weaver, 0, WEAVERS - 1)) {
            throw new IndexOutOfBoundsException("no such weaver");
        }
        if (!isWithin(what, 0, WEAVER_PROPERTIES - 1)) {
            throw new IllegalArgumentException("no such property");
        }
        return hall.weavers[weaver].property(what);
    }

    public int share(int weaver, int colour) throws IndexOutOfBoundsException {
        if (!isWithin(weaver, NONE, WEAVERS - 1) || !isWithin(colour, 0, COLOURS - 1)) {
            throw new IndexOutOfBoundsException("no such weaver or colour");
        }
        return weaver == NONE ? hall.stock.of(colour) : hall.weavers[weaver].share.of(colour);
    }

    public int orderOf(int place, int what) throws IllegalArgumentException {
        if (place < 0 || !isWithin(what, 0, ORDER_PROPERTIES - 1)) {
            throw new IllegalArgumentException("no such place or property");
        }
        return hall.orderProperty(place, what);
    }

    public int wovenBy(int place, int weaver)
            throws IllegalArgumentException, IndexOutOfBoundsException {
        if (place < 0) {
            throw new IllegalArgumentException("no such place");
        }
        if (!isWithin(weaver, 0, WEAVERS - 1)) {
            throw new IndexOutOfBoundsException("no such weaver");
        }
        Order order = hall.orderAt(place);
        return order == null ? NONE : order.goodBy[weaver];
    }

    public int next(int weaver, int what)
            throws IndexOutOfBoundsException, IllegalArgumentException {
        if (!isWithin(weaver, 0, WEAVERS - 1)) {
            throw new IndexOutOfBoundsException("no such weaver");
        }
        if (!isWithin(what, 0, 1)) {
            throw new IllegalArgumentException("no such question");
        }
        Weaver asked = hall.weavers[weaver];
        return what == 0 ? hall.chosenNumber(asked) : hall.hindrance(asked);
    }

    public int count(int what) throws IllegalArgumentException {
        if (!isWithin(what, 0, COUNTS - 1)) {
            throw new IllegalArgumentException("no such number");
        }
        return counted(what);
    }

    public int setting(int setting) throws IndexOutOfBoundsException {
        if (!isWithin(setting, 0, SETTINGS - 1)) {
            throw new IndexOutOfBoundsException("no such setting");
        }
        return hall.settings[setting];
    }

    // ---- what would be; nothing is changed

    public int ifPassed(int hours, int what) throws IllegalArgumentException {
        if (!isWithin(hours, 1, MOST_FORESEEN) || !isWithin(what, 0, FORESEEN - 1)) {
            throw new IllegalArgumentException("hours or question out of range");
        }
        return foreseen(hours, what);
    }

    public int doneIn(int number) throws IndexOutOfBoundsException {
        int place = hall.placeOf(number);
        if (!isWithin(place, 0, MOST_ORDERS - 1)) {
            throw new IndexOutOfBoundsException("no such order");
        }
        foreseeEnds();
        return ends[place];
    }

    public int bestRule(int hours) throws IllegalArgumentException {
        if (!isWithin(hours, 1, MOST_PASSED)) {
            throw new IllegalArgumentException("hours out of range");
        }
        return bestRuleFor(hours);
    }

    public int dueNow(int number, int weaver) throws IndexOutOfBoundsException {
        Order order = hall.find(number);
        if (order == null || !isWithin(weaver, 0, WEAVERS - 1)) {
            throw new IndexOutOfBoundsException("no such order or weaver");
        }
        return hall.dueOf(order, weaver);
    }

    public double evenness() {
        return hall.earnedRatio();
    }

    public long digest() {
        long hash = hashCounts(2861L);
        hash = hashWeavers(hash);
        for (int i = 0; i < COLOURS; i++) {
            hash = mixed(hash, hall.stock.of(i));
        }
        hash = hashOrders(hash);
        for (int i = 0; i < FORESEEN; i++) {
            hash = mixed(hash, foreseen(20, i));
        }
        hash = mixed(hash, bestRuleFor(12));
        hash = mixed(hash, bitsOf(hall.earnedRatio()));
        hash = mixed(hash, bufferLength);
        for (int i = 0; i < bufferLength && i < buffer.length; i++) {
            hash = mixed(hash, buffer[i]);
        }
        return hash;
    }

    // ---- what the calls are made of

    private static boolean isWithin(int value, int least, int most) {
        return value >= least && value <= most;
    }

    private static boolean isLoom(int width, int speed, int care) {
        return isWithin(width, LEAST_WIDTH, MOST_WIDTH) && isWithin(speed, 1, MOST_SPEED)
                && isWithin(care, 0, MOST_CARE);
    }

    private void saveState() {
        if (savedCount >= saved.length) {
            dropOldest();
        }
        if (isWithin(savedCount, 0, saved.length - 1)) {
            saved[savedCount].copyFrom(hall);
            savedCount++;
        }
    }

    private void dropOldest() {
        Hall oldest = saved[0];
        for (int i = 0; i + 1 < saved.length; i++) {
            saved[i] = saved[i + 1];
        }
        // It goes behind the others, so that what it is made of is used again.
        saved[saved.length - 1] = oldest;
        savedCount = saved.length - 1;
    }

    /** Answers the index of the first syntax error, or the length of the buffer. */
    private int readBuffer() {
        reader.restart();
        for (int i = 0; i < bufferLength && i < buffer.length; i++) {
            if (!reader.accepts(buffer[i])) {
                return i;
            }
        }
        return bufferLength;
    }

    private void takeParts() {
        reader.restart();
        for (int i = 0; i < bufferLength && i < buffer.length; i++) {
            // The reader forgets a part when it goes on to the next one.
            if (buffer[i] == ';') {
                takePart();
            }
            reader.accepts(buffer[i]);
        }
        takePart();
    }

    private void takePart() {
        int[] numbers = reader.numbers;
        hall.take(numbers[OrderReader.COLOUR], numbers[OrderReader.WIDTH],
                numbers[OrderReader.LENGTH], numbers[OrderReader.PRICE],
                numbers[OrderReader.DUE]);
    }

    private int counted(int what) {
        return what == COUNTS - 1 ? savedCount : hall.number(what);
    }

    private int foreseen(int hours, int what) {
        trial.copyFrom(hall);
        trial.foresee(hours);
        switch (what) {
            case 0:
                return trial.done - hall.done;
            case 1:
                return trial.paid - hall.paid;
            case 2:
                return trial.sumOf(FAULTS) - hall.sumOf(FAULTS);
            case 3:
                return trial.sumOf(DEBT);
            default:
                return trial.late - hall.late;
        }
    }

    private void foreseeEnds() {
        trial.copyFrom(hall);
        for (int i = 0; i < ends.length; i++) {
            ends[i] = NONE;
        }
        boolean weaves = true;
        for (int i = 1; i <= MOST_FORESEEN && weaves; i++) {
            int before = trial.done;
            // An hour in which nothing is woven is like all that follow.
            weaves = trial.passHour() > 0;
            if (trial.done != before) {
                noteEnds(i);
            }
        }
    }

    private void noteEnds(int hours) {
        for (int i = 0; i < ends.length; i++) {
            Order order = hall.orderAt(i);
            if (order != null && ends[i] == NONE && trial.placeOf(order.number) == NONE) {
                ends[i] = hours;
            }
        }
    }

    private int bestRuleFor(int hours) {
        int best = NONE;
        int bestPaid = 0;
        int bestLate = 0;
        for (int i = 0; i <= MOST_VALUES[RULE]; i++) {
            trial.copyFrom(hall);
            trial.settings[RULE] = i;
            trial.foresee(hours);
            boolean better = trial.paid > bestPaid
                    || trial.paid == bestPaid && trial.late < bestLate;
            if (best == NONE || better) {
                best = i;
                bestPaid = trial.paid;
                bestLate = trial.late;
            }
        }
        return best;
    }

    private static long mixed(long hash, long value) {
        return 31L * hash + value;
    }

    private long hashCounts(long start) {
        long hash = start;
        for (int i = 0; i < COUNTS; i++) {
            hash = mixed(hash, counted(i));
        }
        for (int i = 0; i < SETTINGS; i++) {
            hash = mixed(hash, hall.settings[i]);
        }
        return hash;
    }

    private long hashWeavers(long start) {
        long hash = start;
        for (int i = 0; i < WEAVERS; i++) {
            Weaver weaver = hall.weavers[i];
            for (int k = 0; k < WEAVER_PROPERTIES; k++) {
                hash = mixed(hash, weaver.property(k));
            }
            for (int k = 0; k < COLOURS; k++) {
                hash = mixed(hash, weaver.share.of(k));
            }
            hash = mixed(hash, hall.chosenNumber(weaver));
            hash = mixed(hash, hall.hindrance(weaver));
        }
        return hash;
    }

    private long hashOrders(long start) {
        long hash = start;
        foreseeEnds();
        for (int i = 0; i < hall.orderCount && i < MOST_ORDERS; i++) {
            Order order = hall.orders[i];
            for (int k = 0; k < ORDER_PROPERTIES; k++) {
                hash = mixed(hash, hall.orderProperty(i, k));
            }
            for (int k = 0; k < WEAVERS; k++) {
                hash = mixed(hash, order.goodBy[k]);
            }
            hash = mixed(hash, ends[i]);
            hash = mixed(hash, hall.dueOf(order, 0));
        }
        return hash;
    }

    /** The bits of a double of 0 to 1, by arithmetic: the program may not use Double. */
    private static long bitsOf(double value) {
        if (value <= 0.0) {
            return 0L;
        }
        double scaled = value;
        long exponent = 1023L;
        for (int i = 0; i < 1022 && scaled < 1.0; i++) {
            scaled = scaled * 2.0;
            exponent--;
        }
        return (exponent << 52) + (long) ((scaled - 1.0) * 4503599627370496.0);
    }

    /** Grams of each colour: a weaver's share, or what the store has. */
    private static final class Yarn {
        private final int[] grams = new int[COLOURS];

        int of(int colour) {
            return colour >= 0 && colour < grams.length ? grams[colour] : 0;
        }

        /** Answers what there is of the colour then. */
        int add(int colour, int more) {
            if (colour < 0 || colour >= grams.length) {
                return 0;
            }
            grams[colour] += more;
            return grams[colour];
        }

        void copyFrom(Yarn other) {
            for (int i = 0; i < grams.length && i < other.grams.length; i++) {
                grams[i] = other.grams[i];
            }
        }
    }

    /** A weaver with what was earned and woven. */
    private static final class Weaver {
        final Yarn share = new Yarn();
        int width;
        int speed;
        int care;
        int debt;
        int earned;
        int woven;
        int faults;
        int borrowed;

        boolean hasLoom() {
            return width > 0;
        }

        void borrow(int grams) {
            debt += grams;
            borrowed += grams;
        }

        /** Answers whether the decimetre is good. */
        boolean weavesGood() {
            woven++;
            if (care > 0 && woven % care == 0) {
                faults++;
                return false;
            }
            return true;
        }

        void receive(int due, int gramCost) {
            int grams = gramCost > 0 ? Math.min(debt, due / gramCost) : debt;
            debt -= grams;
            earned += due - grams * gramCost;
        }

        int property(int what) {
            switch (what) {
                case 0:
                    return width;
                case 1:
                    return speed;
                case 2:
                    return care;
                case DEBT:
                    return debt;
                case 4:
                    return earned;
                case WOVEN:
                    return woven;
                case FAULTS:
                    return faults;
                default:
                    return borrowed;
            }
        }

        void copyFrom(Weaver other) {
            share.copyFrom(other.share);
            width = other.width;
            speed = other.speed;
            care = other.care;
            debt = other.debt;
            earned = other.earned;
            woven = other.woven;
            faults = other.faults;
            borrowed = other.borrowed;
        }
    }

    /** An order with what is woven of it. */
    private static final class Order {
        final int[] goodBy = new int[WEAVERS];
        int number;
        int colour;
        int width;
        int length;
        int price;
        int due;
        int good;

        /** Makes it an order of which nothing is woven, in place of the one that it was. */
        void become(int newNumber, int newColour, int newWidth, int newLength,
                int newPrice, int newDue) {
            number = newNumber;
            colour = newColour;
            width = newWidth;
            length = newLength;
            price = newPrice;
            due = newDue;
            good = 0;
            for (int i = 0; i < goodBy.length; i++) {
                goodBy[i] = 0;
            }
        }

        int gramsEach() {
            return (width + 9) / 10;
        }

        boolean isDone() {
            return good >= length;
        }

        void addGood(int weaver) {
            if (weaver >= 0 && weaver < goodBy.length) {
                goodBy[weaver]++;
                good++;
            }
        }

        int lateHours(int hours) {
            return hours > due ? hours - due : 0;
        }

        /** What is paid for the good decimetres, which are the whole length when it is done. */
        int payFor(int lateHours, int lateCost) {
            int full = price * good;
            // The product goes beyond an int.
            long loss = (long) full * lateHours * lateCost / 100L;
            return loss < full ? full - (int) loss : 0;
        }

        /** Puts into the row what each weaver is due of the pay. */
        void divide(int pay, int[] dues) {
            int left = pay;
            int most = 0;
            for (int i = 0; i < goodBy.length && i < dues.length; i++) {
                dues[i] = good > 0 ? pay * goodBy[i] / good : 0;
                left -= dues[i];
                if (goodBy[i] > goodBy[most]) {
                    most = i;
                }
            }
            if (most < dues.length) {
                dues[most] += left;
            }
        }

        void copyFrom(Order other) {
            for (int i = 0; i < goodBy.length && i < other.goodBy.length; i++) {
                goodBy[i] = other.goodBy[i];
            }
            number = other.number;
            colour = other.colour;
            width = other.width;
            length = other.length;
            price = other.price;
            due = other.due;
            good = other.good;
        }
    }

    /** All that is saved for undo, and all that hours change. */
    private static final class Hall {
        final Weaver[] weavers = new Weaver[WEAVERS];
        /** The first orderCount stand in their order; the others wait to be used again. */
        final Order[] orders = new Order[MOST_ORDERS];
        final Yarn stock = new Yarn();
        final int[] settings = {0, 1, 5, 1};
        /** A row that is written anew by each use. */
        final int[] dues = new int[WEAVERS];
        int orderCount;
        int nextNumber;
        int hours;
        int done;
        int late;
        int paid;
        int used;
        int idle;

        Hall() {
            for (int i = 0; i < weavers.length; i++) {
                weavers[i] = new Weaver();
            }
            for (int i = 0; i < orders.length; i++) {
                orders[i] = new Order();
            }
        }

        void copyFrom(Hall other) {
            for (int i = 0; i < weavers.length && i < other.weavers.length; i++) {
                weavers[i].copyFrom(other.weavers[i]);
            }
            for (int i = 0; i < orders.length && i < other.orders.length; i++) {
                orders[i].copyFrom(other.orders[i]);
            }
            stock.copyFrom(other.stock);
            for (int i = 0; i < settings.length && i < other.settings.length; i++) {
                settings[i] = other.settings[i];
            }
            orderCount = other.orderCount;
            nextNumber = other.nextNumber;
            hours = other.hours;
            done = other.done;
            late = other.late;
            paid = other.paid;
            used = other.used;
            idle = other.idle;
        }

        Order orderAt(int place) {
            boolean stands = place >= 0 && place < orderCount && place < orders.length;
            return stands ? orders[place] : null;
        }

        int placeOf(int number) {
            for (int i = 0; i < orderCount && i < orders.length; i++) {
                if (orders[i].number == number) {
                    return i;
                }
            }
            return NONE;
        }

        Order find(int number) {
            return orderAt(placeOf(number));
        }

        /** Answers the number of the new order, NONE if there is no room for it. */
        int take(int colour, int width, int length, int price, int due) {
            if (orderCount < 0 || orderCount >= orders.length) {
                return NONE;
            }
            Order order = orders[orderCount];
            order.become(nextNumber, colour, width, length, price, due);
            // Its number is the highest, so it stands behind those of the same due hour.
            for (int i = orderCount; i > 0 && orders[i - 1].due > due; i--) {
                orders[i] = orders[i - 1];
                orders[i - 1] = order;
            }
            orderCount++;
            nextNumber++;
            return order.number;
        }

        void dismiss(Order order) {
            // It goes behind all others, so that it can be used again.
            for (int i = 0; i + 1 < orders.length; i++) {
                if (orders[i] == order) {
                    orders[i] = orders[i + 1];
                    orders[i + 1] = order;
                }
            }
            orderCount--;
        }

        private int merit(Order order) {
            switch (settings[RULE]) {
                case BY_WIDTH:
                    return order.width;
                case BY_PRICE:
                    return order.price;
                default:
                    return 0;
            }
        }

        /** Answers null if no order fits, or without a loom. */
        private Order choiceOf(Weaver weaver) {
            Order best = null;
            for (int i = 0; i < orderCount && i < orders.length; i++) {
                Order order = orders[i];
                if (order.width <= weaver.width
                        && (best == null || merit(order) > merit(best))) {
                    best = order;
                }
            }
            return best;
        }

        int chosenNumber(Weaver weaver) {
            Order order = choiceOf(weaver);
            return order == null ? NONE : order.number;
        }

        int hindrance(Weaver weaver) {
            if (!weaver.hasLoom()) {
                return 1;
            }
            Order order = choiceOf(weaver);
            if (order == null) {
                return 2;
            }
            return sourceOf(weaver, order) == null ? 3 : 0;
        }

        /** Answers where the yarn of the next decimetre comes from, null if there is none. */
        private Yarn sourceOf(Weaver weaver, Order order) {
            int grams = order.gramsEach();
            if (weaver.share.of(order.colour) >= grams) {
                return weaver.share;
            }
            return settings[LENDS] == 1 && stock.of(order.colour) >= grams ? stock : null;
        }

        private void takeYarn(Yarn source, Weaver weaver, Order order) {
            int grams = order.gramsEach();
            source.add(order.colour, -grams);
            if (source == stock) {
                weaver.borrow(grams);
            }
            used += grams;
        }

        /** Answers how many decimetres were woven in the hour. */
        int passHour() {
            int woven = 0;
            for (int i = 0; i < weavers.length; i++) {
                if (weavers[i].hasLoom()) {
                    int decimetres = workLoom(weavers[i], i);
                    woven += decimetres;
                    idle += decimetres == 0 ? 1 : 0;
                }
            }
            hours++;
            return woven;
        }

        private int workLoom(Weaver weaver, int place) {
            Order order = choiceOf(weaver);
            if (order == null) {
                return 0;
            }
            int woven = 0;
            for (int i = 0; i < weaver.speed && !order.isDone(); i++) {
                Yarn source = sourceOf(weaver, order);
                if (source == null) {
                    break;
                }
                takeYarn(source, weaver, order);
                woven++;
                if (weaver.weavesGood()) {
                    order.addGood(place);
                }
            }
            if (order.isDone()) {
                finish(order);
            }
            return woven;
        }

        private void finish(Order order) {
            int lateHours = order.lateHours(hours);
            int pay = order.payFor(lateHours, settings[LATE_COST]);
            order.divide(pay, dues);
            for (int i = 0; i < weavers.length && i < dues.length; i++) {
                weavers[i].receive(dues[i], settings[GRAM_COST]);
            }
            paid += pay;
            done++;
            late += lateHours > 0 ? 1 : 0;
            dismiss(order);
        }

        /** Lets hours pass for what they bring; the hours and idle looms are not right then. */
        void foresee(int most) {
            boolean weaves = true;
            for (int i = 0; i < most && weaves; i++) {
                // An hour in which nothing is woven is like all that follow.
                weaves = passHour() > 0;
            }
        }

        int dueOf(Order order, int weaver) {
            int pay = order.payFor(order.lateHours(hours), settings[LATE_COST]);
            order.divide(pay, dues);
            return weaver >= 0 && weaver < dues.length ? dues[weaver] : 0;
        }

        int sumOf(int what) {
            int sum = 0;
            for (int i = 0; i < weavers.length; i++) {
                sum += weavers[i].property(what);
            }
            return sum;
        }

        private int loomsAsWideAs(int width) {
            int looms = 0;
            for (int i = 0; i < weavers.length; i++) {
                looms += weavers[i].width >= width ? 1 : 0;
            }
            return looms;
        }

        int number(int what) {
            switch (what) {
                case 0:
                    return hours;
                case 1:
                    return orderCount;
                case 2:
                    return done;
                case 3:
                    return late;
                case 4:
                    return paid;
                case 5:
                    return sumOf(WOVEN);
                case 6:
                    return sumOf(FAULTS);
                case 7:
                    return used;
                case 8:
                    return sumOf(DEBT);
                case 9:
                    return loomsAsWideAs(LEAST_WIDTH);
                default:
                    return idle;
            }
        }

        int orderProperty(int place, int what) {
            Order order = orderAt(place);
            if (order == null) {
                return NONE;
            }
            switch (what) {
                case 0:
                    return order.number;
                case 1:
                    return order.colour;
                case 2:
                    return order.width;
                case 3:
                    return order.length;
                case 4:
                    return order.price;
                case 5:
                    return order.due;
                case 6:
                    return order.good;
                case 7:
                    return (order.length - order.good) * order.gramsEach();
                default:
                    return loomsAsWideAs(order.width);
            }
        }

        double earnedRatio() {
            boolean found = false;
            int least = 0;
            int greatest = 0;
            for (int i = 0; i < weavers.length; i++) {
                if (weavers[i].hasLoom()) {
                    int earned = weavers[i].earned;
                    least = found ? Math.min(least, earned) : earned;
                    greatest = Math.max(greatest, earned);
                    found = true;
                }
            }
            return greatest > 0 ? (double) least / (double) greatest : 1.0;
        }
    }

    /** Reads orders as a text, a character at a time. */
    private static final class OrderReader {
        static final int LENGTH = 0;
        static final int WIDTH = 1;
        static final int COLOUR = 2;
        static final int PRICE = 3;
        static final int DUE = 4;
        private static final int[] LEAST = {1, LEAST_WIDTH, 0, 1, 0};
        private static final int[] MOST = {
            MOST_LENGTH, MOST_WIDTH, COLOURS - 1, MOST_PRICE, MOST_HOUR
        };
        private static final int USUAL_PRICE = 10;

        /** Of the part that is being read. */
        final int[] numbers = new int[5];
        int parts;
        private int field;
        private int digits;

        void restart() {
            parts = 0;
            startPart();
        }

        private void startPart() {
            parts++;
            field = LENGTH;
            digits = 0;
            numbers[PRICE] = USUAL_PRICE;
            numbers[DUE] = MOST_HOUR;
        }

        /** Answers false if the character is a syntax error. */
        boolean accepts(int code) {
            if (code >= '0' && code <= '9') {
                return acceptsDigit(code - '0');
            }
            return numberStands() && acceptsMark(code);
        }

        boolean isComplete() {
            return field >= COLOUR && numberStands();
        }

        private boolean isField() {
            return isWithin(field, LENGTH, DUE);
        }

        private boolean numberStands() {
            return isField() && digits > 0 && isWithin(numbers[field], LEAST[field], MOST[field]);
        }

        private boolean acceptsDigit(int digit) {
            if (!isField() || digits > 0 && numbers[field] == 0) {
                return false;
            }
            int number = digits == 0 ? digit : numbers[field] * 10 + digit;
            if (!canBecome(number, LEAST[field], MOST[field])) {
                return false;
            }
            numbers[field] = number;
            digits++;
            return true;
        }

        /** Whether the number, perhaps with more digits behind it, is in the range. */
        private static boolean canBecome(int number, int least, int most) {
            if (number == 0) {
                return least == 0;
            }
            int from = number;
            int to = number;
            for (int i = 0; i < 5 && from <= most; i++) {
                if (to >= least) {
                    return true;
                }
                from = from * 10;
                to = to * 10 + 9;
            }
            return false;
        }

        private boolean acceptsMark(int code) {
            int following = fieldBehind(code);
            if (following == NONE) {
                return false;
            }
            if (following == LENGTH) {
                startPart();
            }
            field = following;
            digits = 0;
            return true;
        }

        private int fieldBehind(int code) {
            switch (code) {
                case 'x':
                    return field == LENGTH ? WIDTH : NONE;
                case 'c':
                    return field == WIDTH ? COLOUR : NONE;
                case '$':
                    return field == COLOUR ? PRICE : NONE;
                case '@':
                    return field == COLOUR || field == PRICE ? DUE : NONE;
                case ';':
                    return field >= COLOUR ? LENGTH : NONE;
                default:
                    return NONE;
            }
        }
    }
}
