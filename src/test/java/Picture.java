/** All that can be seen of an object, as a text. */
final class Picture {
    private Picture() {
    }

    static String of(WeaveShares x) {
        return withoutSaved(x) + " saved " + x.count(11) + " error " + x.firstError()
                + " hash " + x.digest();
    }

    /** Without what undo does not bring back: the saved states and the buffer. */
    static String withoutSaved(WeaveShares x) {
        StringBuilder text = new StringBuilder();
        for (int i = 0; i < 11; i++) {
            text.append(x.count(i)).append(' ');
        }
        for (int i = 0; i < 4; i++) {
            text.append(x.setting(i)).append(' ').append(x.share(WeaveShares.NONE, i)).append(' ');
        }
        for (int w = 0; w < 6; w++) {
            text.append("| ");
            for (int i = 0; i < 8; i++) {
                text.append(x.weaver(w, i)).append(' ');
            }
            for (int i = 0; i < 4; i++) {
                text.append(x.share(w, i)).append(' ');
            }
            text.append(x.next(w, 0)).append(' ').append(x.next(w, 1)).append(' ');
        }
        for (int place = 0; place < 11; place++) {
            text.append("| ");
            for (int i = 0; i < 9; i++) {
                text.append(x.orderOf(place, i)).append(' ');
            }
            for (int w = 0; w < 6; w++) {
                text.append(x.wovenBy(place, w)).append(' ');
            }
        }
        return text.append(x.evenness()).toString();
    }
}
