/** The digest as the document tells it, from the other calls' answers. */
final class Digest {
    private long hash = 2861L;

    private Digest() {
    }

    private void add(long value) {
        hash = 31L * hash + value;
    }

    static long of(WeaveShares x, String buffer) {
        Digest d = new Digest();
        for (int i = 0; i < 12; i++) {
            d.add(x.count(i));
        }
        for (int i = 0; i < 4; i++) {
            d.add(x.setting(i));
        }
        for (int w = 0; w < 6; w++) {
            d.addWeaver(x, w);
        }
        for (int c = 0; c < 4; c++) {
            d.add(x.share(WeaveShares.NONE, c));
        }
        for (int place = 0; place < x.count(1); place++) {
            d.addOrder(x, place);
        }
        for (int i = 0; i < 5; i++) {
            d.add(x.ifPassed(20, i));
        }
        d.add(x.bestRule(12));
        d.add(Double.doubleToLongBits(x.evenness()));
        d.add(buffer.length());
        for (int i = 0; i < buffer.length(); i++) {
            d.add(buffer.charAt(i));
        }
        return d.hash;
    }

    private void addWeaver(WeaveShares x, int w) {
        for (int i = 0; i < 8; i++) {
            add(x.weaver(w, i));
        }
        for (int c = 0; c < 4; c++) {
            add(x.share(w, c));
        }
        add(x.next(w, 0));
        add(x.next(w, 1));
    }

    private void addOrder(WeaveShares x, int place) {
        for (int i = 0; i < 9; i++) {
            add(x.orderOf(place, i));
        }
        for (int w = 0; w < 6; w++) {
            add(x.wovenBy(place, w));
        }
        int number = x.orderOf(place, 0);
        add(x.doneIn(number));
        add(x.dueNow(number, 0));
    }
}
