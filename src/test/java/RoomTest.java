import com.sun.management.ThreadMXBean;
import java.lang.management.ManagementFactory;

/** All calls of a run live in one room: a new object is small, and no call makes anything. */
public final class RoomTest {
    private static final Due DUE = new Due();
    private static final int OBJECTS = 200;
    private static final int MOST_BYTES_EACH = 10_000;

    public static void main(String[] args) {
        ThreadMXBean threads = (ThreadMXBean) ManagementFactory.getThreadMXBean();
        SoupOrHorses[] all = new SoupOrHorses[OBJECTS];
        // The first object's bytes are those of loading the class, too.
        useAll(new SoupOrHorses());
        long first = threads.getCurrentThreadAllocatedBytes();
        for (int i = 0; i < OBJECTS; i++) {
            all[i] = new SoupOrHorses();
        }
        long made = threads.getCurrentThreadAllocatedBytes();
        for (SoupOrHorses x : all) {
            useAll(x);
        }
        long used = threads.getCurrentThreadAllocatedBytes();
        DUE.holds("a new object: bytes " + (made - first) / OBJECTS, made - first < OBJECTS * MOST_BYTES_EACH);
        DUE.holds("calls of one object: bytes " + (used - made) / OBJECTS, used - made < OBJECTS * 100);
        DUE.end();
    }

    private static void useAll(SoupOrHorses x) {
        for (int i = 0; i < TAPE.length(); i++) {
            x.feed(TAPE.charAt(i));
        }
        x.camp();
        x.feed('?');
        x.camp();
        x.wipe();
        x.row(0, 0, 8);
        x.set(0, 1, 1);
        x.set(0, 2, 2);
        x.row(1, 0, 40);
        x.copy(0, 1, 0, 0, 8);
        x.element(0, 0);
        x.show(2, 1);
        x.holds(2);
        x.says(2, 1);
        x.call(0, 5, 9, 9);
        x.ear(5, 1);
        x.man(1, 1);
        x.tell(0, 0, 5);
        x.ask(0, 900);
        x.image();
        x.back();
        hear(x);
        compare(x);
    }

    private static void hear(SoupOrHorses x) {
        x.callOf(0, 10);
        x.earOf(0, 0);
        x.manOf(0, 0);
        x.heard(0, 0, 0);
        x.fits(0, 3, false, 0, 0);
        x.likely(0, 3, false, 0, 0);
        x.guess(0, 3, false, 0);
        x.known(0, 0);
        x.earFor(0);
        x.mean(0);
        x.worst(0);
        x.next(0, 2, 0);
        x.does(0, 1);
        x.right(0);
        x.leads(0);
        x.follows(0);
        x.sureFor(0);
        x.risk(0, 0);
        x.nearest(0, 5, 0);
        x.judge(0, 8);
        x.when(0, 5, 0);
        x.sound(0, 3);
        x.days(9);
    }

    private static void compare(SoupOrHorses x) {
        x.apart(0, 1);
        x.alikeFirst(0, 1);
        x.notes(1);
        x.twins();
        x.change(0, 2);
        x.alike(0);
        x.mixed(0, 0);
        x.fresh(3, 2);
        x.keep(2);
        x.learn(0);
        x.seed(4);
        x.status(9);
        x.drop();
        x.set(9, 9, 9);
    }

    private static final String TAPE =
        "call abc 30 10;call abd 50 20;call e 20 90;ear 0 0;ear 1 2;man 0 0;man 1 1;sure 700;lost 30;use 0 9";
}
