import java.util.ArrayList;
import java.util.List;
import java.util.function.LongSupplier;
import java.util.function.Supplier;
import java.util.function.ToLongFunction;

/** What the tests of the promises share: objects made from texts, and calls that are refused. */
final class Scene {
    static final int BAD = -2;
    static final int OTHER = -3;
    static final int NOTHING = -4;
    static final int STUCK = -5;
    static final int FULL = -6;

    private Scene() {
    }

    static void feed(SoupOrHorses x, String text) {
        for (int i = 0; i < text.length(); i++) {
            x.feed(text.charAt(i));
        }
    }

    /** What camp() answers to a text. */
    static int read(SoupOrHorses x, String text) {
        x.wipe();
        feed(x, text);
        return x.camp();
    }

    static SoupOrHorses camp(String text) {
        SoupOrHorses x = new SoupOrHorses();
        if (read(x, text) < 1) {
            throw new IllegalStateException("no CAMP: " + text);
        }
        return x;
    }

    /** SHELF s holds a ROW of ints: 0 to 4 NOTES, 9 GONE. */
    static void put(SoupOrHorses x, int s, int... values) {
        x.row(s, 2, values.length);
        for (int i = 0; i < values.length; i++) {
            x.set(s, i, values[i]);
        }
    }

    /** A call is refused with a number: that is counted, and nothing else becomes another. */
    static void refused(Due due, SoupOrHorses x, String what, int want, LongSupplier call) {
        int[] before = stand(x);
        due.same(what, call.getAsLong(), want);
        int[] after = stand(x);
        for (int i = 0; i < before.length; i++) {
            int more = i == 10 - want ? 1 : 0;
            due.same(what + ": status(" + i + ")", after[i], before[i] + more);
        }
    }

    /** A call of a new object is refused with a number: that is counted, and nothing else becomes another. */
    static void refuses(Due due, String what, int want, Supplier<SoupOrHorses> make,
            ToLongFunction<SoupOrHorses> call) {
        SoupOrHorses x = make.get();
        List<Long> before = all(x);
        due.same(what, call.applyAsLong(x), want);
        List<Long> after = all(x);
        int counted = 10 - want;
        due.same(what + " is counted", after.get(counted), before.get(counted) + 1);
        after.set(counted, before.get(counted));
        due.holds(what + " changes nothing: " + before + " became " + after, before.equals(after));
    }

    /** All that an object tells of itself, the answers of status() first; none of these calls is refused. */
    static List<Long> all(SoupOrHorses x) {
        List<Long> all = new ArrayList<>();
        for (int what = 0; what <= 17; what++) {
            all.add((long) x.status(what));
        }
        for (int call = 0; call < all.get(0); call++) {
            for (int what = 0; what < 10 + x.callOf(call, 0); what = what == 2 ? 10 : what + 1) {
                all.add((long) x.callOf(call, what));
            }
        }
        for (int i = 0; i < 2; i++) {
            for (int ear = 0; ear < all.get(1); ear++) {
                all.add((long) x.earOf(ear, i));
            }
            for (int man = 0; man < all.get(2); man++) {
                all.add((long) x.manOf(man, i));
            }
        }
        for (int s = 0; s < 8; s++) {
            all.add((long) x.holds(s));
            for (int i = 0; i < 10 && x.holds(s) >= 0 && x.holds(s) < 10; i++) {
                all.add(x.element(s, i));
            }
        }
        return all;
    }

    private static int[] stand(SoupOrHorses x) {
        int[] all = new int[17];
        for (int i = 0; i < all.length; i++) {
            all[i] = x.status(i);
        }
        return all;
    }
}
