import java.math.BigInteger;
import java.util.ArrayDeque;
import java.util.ArrayList;
import java.util.Comparator;
import java.util.Deque;
import java.util.List;
import java.util.TreeMap;
import java.util.regex.Matcher;
import java.util.regex.Pattern;

/** The document once more, told in another way and slowly: what the class is compared with. */
final class Model {
    private static final String PART = "([1-9]\\d?|1\\d\\d|200)x([4-9]\\d|1\\d\\d|200)c([0-3])"
            + "(?:\\$([1-9]\\d?))?(?:@(0|[1-9]\\d{0,3}))?";
    private static final Pattern ORDERS = Pattern.compile(PART + "(?:;" + PART + ")*");
    private static final Pattern ONE = Pattern.compile(PART);

    /** What is asked throws this. */
    static final class Refusal extends Exception {
        private static final long serialVersionUID = 1L;
        final Class<?> due;

        Refusal(Class<?> due) {
            super(null, null, false, false);
            this.due = due;
        }
    }

    private static final class Person {
        int width;
        int speed;
        int care;
        long debt;
        long earned;
        long woven;
        long faults;
        long borrowed;
        final long[] yarn = new long[4];

        Person copy() {
            Person p = new Person();
            p.width = width;
            p.speed = speed;
            p.care = care;
            p.debt = debt;
            p.earned = earned;
            p.woven = woven;
            p.faults = faults;
            p.borrowed = borrowed;
            System.arraycopy(yarn, 0, p.yarn, 0, 4);
            return p;
        }
    }

    private static final class Job {
        int number;
        int colour;
        int width;
        int length;
        int price;
        int due;
        final TreeMap<Integer, Integer> good = new TreeMap<>();

        int all() {
            return good.values().stream().mapToInt(Integer::intValue).sum();
        }

        int by(int w) {
            return good.getOrDefault(w, 0);
        }

        int grams() {
            return width % 10 == 0 ? width / 10 : width / 10 + 1;
        }

        Job copy() {
            Job j = new Job();
            j.number = number;
            j.colour = colour;
            j.width = width;
            j.length = length;
            j.price = price;
            j.due = due;
            j.good.putAll(good);
            return j;
        }
    }

    private static final class World {
        final List<Person> people = new ArrayList<>();
        final List<Job> jobs = new ArrayList<>();
        final long[] store = new long[4];
        final int[] settings = {0, 1, 5, 1};
        int came;
        long hours;
        long done;
        long late;
        long paid;
        long used;
        long still;

        World copy() {
            World w = new World();
            for (Person p : people) {
                w.people.add(p.copy());
            }
            for (Job j : jobs) {
                w.jobs.add(j.copy());
            }
            System.arraycopy(store, 0, w.store, 0, 4);
            System.arraycopy(settings, 0, w.settings, 0, 4);
            w.came = came;
            w.hours = hours;
            w.done = done;
            w.late = late;
            w.paid = paid;
            w.used = used;
            w.still = still;
            return w;
        }

        List<Job> sorted() {
            List<Job> list = new ArrayList<>(jobs);
            list.sort(Comparator.comparingInt((Job j) -> j.due).thenComparingInt(j -> j.number));
            return list;
        }

        Job at(int place) {
            List<Job> list = sorted();
            return place < list.size() ? list.get(place) : null;
        }

        Job byNumber(int number) {
            for (Job j : jobs) {
                if (j.number == number) {
                    return j;
                }
            }
            return null;
        }

        int take(int colour, int width, int length, int price, int due) {
            Job j = new Job();
            j.number = came++;
            j.colour = colour;
            j.width = width;
            j.length = length;
            j.price = price;
            j.due = due;
            jobs.add(j);
            return j.number;
        }

        Job choice(Person p) {
            List<Job> list = sorted();
            list.removeIf(j -> p.width == 0 || j.width > p.width);
            if (settings[0] == 1) {
                list.sort(Comparator.comparingInt((Job j) -> -j.width));
            }
            if (settings[0] == 2) {
                list.sort(Comparator.comparingInt((Job j) -> -j.price));
            }
            return list.isEmpty() ? null : list.get(0);
        }

        int reason(Person p) {
            if (p.width == 0) {
                return 1;
            }
            Job j = choice(p);
            if (j == null) {
                return 2;
            }
            boolean own = p.yarn[j.colour] >= j.grams();
            boolean lent = settings[1] == 1 && store[j.colour] >= j.grams();
            return own || lent ? 0 : 3;
        }

        void hour() {
            for (int w = 0; w < 6; w++) {
                Person p = people.get(w);
                if (p.width > 0 && work(p, w) == 0) {
                    still++;
                }
            }
            hours++;
        }

        private int work(Person p, int w) {
            Job j = choice(p);
            int dm = 0;
            while (j != null && dm < p.speed && j.all() < j.length) {
                if (p.yarn[j.colour] >= j.grams()) {
                    p.yarn[j.colour] -= j.grams();
                } else if (settings[1] == 1 && store[j.colour] >= j.grams()) {
                    store[j.colour] -= j.grams();
                    p.debt += j.grams();
                    p.borrowed += j.grams();
                } else {
                    break;
                }
                used += j.grams();
                dm++;
                p.woven++;
                if (p.care > 0 && p.woven % p.care == 0) {
                    p.faults++;
                } else {
                    j.good.merge(w, 1, Integer::sum);
                }
                if (j.all() == j.length) {
                    pay(j);
                }
            }
            return dm;
        }

        long whole(Job j, int length) {
            BigInteger full = BigInteger.valueOf(j.price).multiply(BigInteger.valueOf(length));
            BigInteger lateHours = BigInteger.valueOf(hours - j.due).max(BigInteger.ZERO);
            BigInteger loss = full.multiply(lateHours).multiply(BigInteger.valueOf(settings[2]))
                    .divide(BigInteger.valueOf(100));
            return full.subtract(loss).max(BigInteger.ZERO).longValueExact();
        }

        long[] dues(Job j, int length) {
            long[] due = new long[6];
            if (length == 0) {
                return due;
            }
            long whole = whole(j, length);
            long given = 0;
            int first = 5;
            for (int w = 5; w >= 0; w--) {
                due[w] = whole * j.by(w) / length;
                given += due[w];
                first = j.by(w) >= j.by(first) ? w : first;
            }
            due[first] += whole - given;
            return due;
        }

        private void pay(Job j) {
            long[] due = dues(j, j.length);
            for (int w = 0; w < 6; w++) {
                Person p = people.get(w);
                long money = due[w];
                while (p.debt > 0 && money >= settings[3]) {
                    p.debt--;
                    money -= settings[3];
                }
                p.earned += money;
            }
            paid += whole(j, j.length);
            done++;
            late += hours > j.due ? 1 : 0;
            jobs.remove(j);
        }

        long debts() {
            return people.stream().mapToLong(p -> p.debt).sum();
        }

        long woven() {
            return people.stream().mapToLong(p -> p.woven).sum();
        }

        long faults() {
            return people.stream().mapToLong(p -> p.faults).sum();
        }

        long looms(int width) {
            return people.stream().filter(p -> p.width > 0 && p.width >= width).count();
        }

        World after(int passed) {
            World w = copy();
            for (int i = 0; i < passed; i++) {
                w.hour();
            }
            return w;
        }
    }

    private World now = new World();
    private final Deque<World> saved = new ArrayDeque<>();
    private String buffer = "";

    Model() {
        for (int i = 0; i < 6; i++) {
            now.people.add(new Person());
        }
    }

    private static void index(boolean holds) throws Refusal {
        if (!holds) {
            throw new Refusal(IndexOutOfBoundsException.class);
        }
    }

    private static void argument(boolean holds) throws Refusal {
        if (!holds) {
            throw new Refusal(IllegalArgumentException.class);
        }
    }

    private static void state(boolean holds) throws Refusal {
        if (!holds) {
            throw new Refusal(IllegalStateException.class);
        }
    }

    private static boolean in(long least, long value, long most) {
        return least <= value && value <= most;
    }

    private void save() {
        saved.addLast(now.copy());
        if (saved.size() > 6) {
            saved.removeFirst();
        }
    }

    long loom(int w, int width, int speed, int care) throws Refusal {
        index(in(0, w, 5));
        argument(width == 0 || in(40, width, 200) && in(1, speed, 9) && in(0, care, 99));
        save();
        Person p = now.people.get(w);
        long before = p.width;
        p.width = width;
        p.speed = width > 0 ? speed : 0;
        p.care = width > 0 ? care : 0;
        return before;
    }

    long yarn(int w, int c, int grams) throws Refusal {
        index(in(0, w, 5) && in(0, c, 3));
        argument(in(-9999, grams, 9999));
        state(in(0, now.people.get(w).yarn[c] + grams, 9999));
        save();
        return now.people.get(w).yarn[c] += grams;
    }

    long store(int c, int grams) throws Refusal {
        index(in(0, c, 3));
        argument(in(1, grams, 9999));
        state(now.store[c] + grams <= 99999);
        save();
        return now.store[c] += grams;
    }

    long give(int w, int other, int c, int grams) throws Refusal {
        index(in(0, w, 5) && in(0, other, 5) && in(0, c, 3));
        argument(w != other && in(1, grams, 9999));
        state(now.people.get(w).yarn[c] - grams >= 0);
        state(now.people.get(other).yarn[c] + grams <= 9999);
        save();
        now.people.get(w).yarn[c] -= grams;
        return now.people.get(other).yarn[c] += grams;
    }

    long order(int c, int width, int length, int price, int due) throws Refusal {
        index(in(0, c, 3));
        argument(in(40, width, 200) && in(1, length, 200) && in(1, price, 99) && in(0, due, 9999));
        state(now.jobs.size() < 10);
        save();
        return now.take(c, width, length, price, due);
    }

    long cancel(int number) throws Refusal {
        Job j = now.byNumber(number);
        index(j != null);
        save();
        now.jobs.remove(j);
        return j.all();
    }

    long set(int setting, int value) throws Refusal {
        index(in(0, setting, 3));
        argument(in(0, value, new int[] {2, 1, 50, 9}[setting]));
        save();
        int before = now.settings[setting];
        now.settings[setting] = value;
        return before;
    }

    long pass(int hours) throws Refusal {
        argument(in(1, hours, 99));
        state(now.hours + hours <= 9999);
        save();
        long before = now.done;
        now = now.after(hours);
        return now.done - before;
    }

    long append(int code) throws Refusal {
        argument(in(33, code, 126));
        state(buffer.length() < 60);
        buffer += (char) code;
        return buffer.length();
    }

    long clearBuffer() {
        long length = buffer.length();
        buffer = "";
        return length;
    }

    long firstError() {
        for (int i = 1; i <= buffer.length(); i++) {
            Matcher m = ORDERS.matcher(buffer.substring(0, i));
            if (!m.matches() && !m.hitEnd()) {
                return i - 1;
            }
        }
        return buffer.length();
    }

    long takeAll() throws Refusal {
        argument(ORDERS.matcher(buffer).matches());
        String[] parts = buffer.split(";");
        state(now.jobs.size() + parts.length <= 10);
        save();
        for (String part : parts) {
            Matcher m = ONE.matcher(part);
            if (!m.matches()) {
                throw new AssertionError(part);
            }
            int price = m.group(4) == null ? 10 : Integer.parseInt(m.group(4));
            int due = m.group(5) == null ? 9999 : Integer.parseInt(m.group(5));
            now.take(Integer.parseInt(m.group(3)), Integer.parseInt(m.group(2)),
                    Integer.parseInt(m.group(1)), price, due);
        }
        buffer = "";
        return now.jobs.size();
    }

    long undo() throws Refusal {
        state(!saved.isEmpty());
        now = saved.removeLast();
        return saved.size();
    }

    long weaver(int w, int what) throws Refusal {
        index(in(0, w, 5));
        argument(in(0, what, 7));
        Person p = now.people.get(w);
        return new long[] {p.width, p.speed, p.care, p.debt, p.earned, p.woven, p.faults,
            p.borrowed}[what];
    }

    long share(int w, int c) throws Refusal {
        index(in(-1, w, 5) && in(0, c, 3));
        return w < 0 ? now.store[c] : now.people.get(w).yarn[c];
    }

    long orderOf(int place, int what) throws Refusal {
        argument(place >= 0 && in(0, what, 8));
        Job j = now.at(place);
        return j == null ? -1 : new long[] {j.number, j.colour, j.width, j.length, j.price, j.due,
            j.all(), (long) (j.length - j.all()) * j.grams(), now.looms(j.width)}[what];
    }

    long wovenBy(int place, int w) throws Refusal {
        argument(place >= 0);
        index(in(0, w, 5));
        Job j = now.at(place);
        return j == null ? -1 : j.by(w);
    }

    long next(int w, int what) throws Refusal {
        index(in(0, w, 5));
        argument(in(0, what, 1));
        Job j = now.choice(now.people.get(w));
        return what == 1 ? now.reason(now.people.get(w)) : j == null ? -1 : j.number;
    }

    long count(int what) throws Refusal {
        argument(in(0, what, 11));
        return new long[] {now.hours, now.jobs.size(), now.done, now.late, now.paid, now.woven(),
            now.faults(), now.used, now.debts(), now.looms(0), now.still, saved.size()}[what];
    }

    long setting(int setting) throws Refusal {
        index(in(0, setting, 3));
        return now.settings[setting];
    }

    long ifPassed(int hours, int what) throws Refusal {
        argument(in(1, hours, 200) && in(0, what, 4));
        World w = now.after(hours);
        return new long[] {w.done - now.done, w.paid - now.paid, w.faults() - now.faults(),
            w.debts(), w.late - now.late}[what];
    }

    long doneIn(int number) throws Refusal {
        index(now.byNumber(number) != null);
        World w = now.copy();
        for (int i = 1; i <= 200; i++) {
            w.hour();
            if (w.byNumber(number) == null) {
                return i;
            }
        }
        return -1;
    }

    long bestRule(int hours) throws Refusal {
        argument(in(1, hours, 99));
        int best = 0;
        World of = null;
        for (int rule = 0; rule < 3; rule++) {
            World w = now.copy();
            w.settings[0] = rule;
            w = w.after(hours);
            if (of == null || w.paid > of.paid || w.paid == of.paid && w.late < of.late) {
                best = rule;
                of = w;
            }
        }
        return best;
    }

    long dueNow(int number, int w) throws Refusal {
        Job j = now.byNumber(number);
        index(j != null && in(0, w, 5));
        return now.dues(j, j.all())[w];
    }

    double evenness() {
        long[] earned = now.people.stream().filter(p -> p.width > 0).mapToLong(p -> p.earned)
                .sorted().toArray();
        if (earned.length == 0 || earned[earned.length - 1] == 0) {
            return 1.0;
        }
        return (double) earned[0] / earned[earned.length - 1];
    }

    long digest() throws Refusal {
        List<Long> list = new ArrayList<>();
        for (int i = 0; i < 12; i++) {
            list.add(count(i));
        }
        for (int i = 0; i < 4; i++) {
            list.add(setting(i));
        }
        for (int w = 0; w < 6; w++) {
            for (int i = 0; i < 8; i++) {
                list.add(weaver(w, i));
            }
            for (int c = 0; c < 4; c++) {
                list.add(share(w, c));
            }
            list.add(next(w, 0));
            list.add(next(w, 1));
        }
        for (int c = 0; c < 4; c++) {
            list.add(share(-1, c));
        }
        for (int place = 0; place < now.jobs.size(); place++) {
            for (int i = 0; i < 9; i++) {
                list.add(orderOf(place, i));
            }
            for (int w = 0; w < 6; w++) {
                list.add(wovenBy(place, w));
            }
            list.add(doneIn((int) orderOf(place, 0)));
            list.add(dueNow((int) orderOf(place, 0), 0));
        }
        for (int i = 0; i < 5; i++) {
            list.add(ifPassed(20, i));
        }
        list.add(bestRule(12));
        list.add(Double.doubleToLongBits(evenness()));
        list.add((long) buffer.length());
        for (char c : buffer.toCharArray()) {
            list.add((long) c);
        }
        long hash = 2861;
        for (long v : list) {
            hash = 31 * hash + v;
        }
        return hash;
    }
}
