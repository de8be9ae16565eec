import java.util.function.LongSupplier;

/** What the tests of the promises share: objects made from texts, and calls that are refused. */
final class Scene {
    static final int BAD = -2;
    static final int OTHER = -3;
    static final int NOTHING = -4;
    static final int STUCK = -5;
    static final int FULL = -6;

    private Scene() {
    }

    static void feed(SoupOrHorses x, String text) {
        for (int i = 0; i < text.length(); i++) {
            x.feed(text.charAt(i));
        }
    }

    /** What camp() answers to a text. */
    static int read(SoupOrHorses x, String text) {
        x.wipe();
        feed(x, text);
        return x.camp();
    }

    static SoupOrHorses camp(String text) {
        SoupOrHorses x = new SoupOrHorses();
        if (read(x, text) < 1) {
            throw new IllegalStateException("no CAMP: " + text);
        }
        return x;
    }

    /** SHELF s holds a ROW of ints: 0 to 4 NOTES, 9 GONE. */
    static void put(SoupOrHorses x, int s, int... values) {
        x.row(s, 2, values.length);
        for (int i = 0; i < values.length; i++) {
            x.set(s, i, values[i]);
        }
    }

    /** A call is refused with a number: that is counted, and nothing else becomes another. */
    static void refused(Due due, SoupOrHorses x, String what, int want, LongSupplier call) {
        int[] before = stand(x);
        due.same(what, call.getAsLong(), want);
        int[] after = stand(x);
        for (int i = 0; i < before.length; i++) {
            int more = i == 10 - want ? 1 : 0;
            due.same(what + ": status(" + i + ")", after[i], before[i] + more);
        }
    }

    private static int[] stand(SoupOrHorses x) {
        int[] all = new int[17];
        for (int i = 0; i < all.length; i++) {
            all[i] = x.status(i);
        }
        return all;
    }
}
