/** Promises 48 to 54: CALLS SOUNDED in truth, days, what is kept, and status. */
public final class TruthPromisesTest {
    private static final Due DUE = new Due();

    public static void main(String[] args) {
        promise48Draws();
        promise48();
        promise48Refuses();
        promise49();
        promise49ByDraws();
        promise50();
        promise51();
        promise52And53();
        promise53Shelves();
        promise54();
        DUE.end();
    }

    /** The SEED behind one, by longs. */
    private static int follow(int seed) {
        return (int) ((seed * 1103515245L + 12345L) & 0xFFFFFFFFL);
    }

    private static int draw(int seed, int n) {
        return (int) (((seed & 0xFFFFFFFFL) / 65536L) % n);
    }

    private static void promise48Draws() {
        DUE.same("the first SEED", follow(1), 1103527590);
        SoupOrHorses x = Scene.camp("call edcbaedc 1 1");
        int[] seeds = {1, 0, -1, 7777777, Integer.MIN_VALUE, Integer.MAX_VALUE};
        for (int seed : seeds) {
            for (int lost = 0; lost <= 100; lost += 10) {
                x.seed(seed);
                x.ask(1, lost);
                draws(x, seed, lost);
            }
        }
    }

    private static void draws(SoupOrHorses x, int first, int lost) {
        int gone = 0;
        int seed = first;
        int answer = x.sound(0, 3);
        for (int i = 0; i < 8; i++) {
            seed = follow(seed);
            boolean isGone = draw(seed, 100) < lost;
            gone += isGone ? 1 : 0;
            String what = "sound from " + first + ", LOST " + lost + ", place " + i;
            DUE.same(what, x.element(3, i), isGone ? 9 : x.callOf(0, 10 + i));
        }
        DUE.same("sound: how many", answer, gone);
        DUE.same("sound: SEED", x.status(8), seed);
    }

    private static void promise48() {
        SoupOrHorses x = Scene.camp("call abcde 1 1;call e 1 1;ear 0 0");
        x.show(0, 0);
        // The draws below 100 from SEED 1 are 38, 26, 13, 83, 19.
        DUE.same("sound", x.sound(0, 0), 2);
        int[] want = {0, 1, 9, 3, 9};
        for (int i = 0; i < 5; i++) {
            DUE.same("sound: element " + i, x.element(0, i), want[i]);
        }
        DUE.same("sound: holds bytes", x.holds(0), 0);
        Scene.put(x, 1, 1, 2, 3, 4);
        DUE.same("sound of 1", x.sound(1, 1), 0);
        DUE.same("sound of 1: holds bytes", x.holds(1), 0);
        DUE.same("sound of 1: element", x.element(1, 0), 4);
        DUE.same("sound of 1: no more elements", x.set(1, 1, 0), Scene.BAD);
        DUE.same("sound leaves the CALL", x.callOf(0, 12), 2);
    }

    private static void promise48Refuses() {
        SoupOrHorses x = Scene.camp("call abc 1 1");
        Scene.refused(DUE, x, "sound(-1, 0)", Scene.BAD, () -> x.sound(-1, 0));
        Scene.refused(DUE, x, "sound(1, 0)", Scene.BAD, () -> x.sound(1, 0));
        Scene.refused(DUE, x, "sound(0, -1)", Scene.BAD, () -> x.sound(0, -1));
        Scene.refused(DUE, x, "sound(0, 8)", Scene.BAD, () -> x.sound(0, 8));
    }

    private static void promise49() {
        SoupOrHorses x = Scene.camp("call abc 1 1;call bcd 1 1;call cd 1 1;lost 0");
        DUE.same("days, none LOST", x.days(99), 0);
        DUE.same("days put into no SHELF", x.status(9), 0);
        SoupOrHorses y = new SoupOrHorses();
        Scene.refused(DUE, y, "days, no CALLS", Scene.STUCK, () -> y.days(1));
        Scene.refused(DUE, y, "days 0, no CALLS", Scene.BAD, () -> y.days(0));
        Scene.refused(DUE, x, "days 0", Scene.BAD, () -> x.days(0));
        Scene.refused(DUE, x, "days -1", Scene.BAD, () -> x.days(-1));
        Scene.refused(DUE, x, "days 100", Scene.BAD, () -> x.days(100));
    }

    /** With all GONE the first CALL of as many NOTES is done, so the draws alone tell how often. */
    private static void promise49ByDraws() {
        int[] sizes = {1, 1, 3, 3, 3};
        int[] done = {0, 0, 2, 2, 2};
        int[] seeds = {1, -5, 123456789};
        for (int first : seeds) {
            SoupOrHorses x = Scene.camp("call a 1 1;call b 1 1;call abc 1 1;call bcd 1 1;call abc 1 1;lost 100");
            x.seed(first);
            int seed = first;
            int wrong = 0;
            for (int day = 0; day < 50; day++) {
                seed = follow(seed);
                int call = draw(seed, 5);
                for (int i = 0; i < sizes[call]; i++) {
                    seed = follow(seed);
                }
                wrong += done[call] == call ? 0 : 1;
            }
            DUE.same("days from " + first, x.days(50), wrong);
            DUE.same("days from " + first + ": SEED", x.status(8), seed);
        }
    }

    private static void promise50() {
        SoupOrHorses x = Scene.camp("call a 10 1;call bc 20 2");
        DUE.same("drop", x.drop(), 1);
        DUE.same("drop: NOTES, USES", x.status(3) * 100 + x.status(4), 110);
        DUE.same("drop: the CALL that is left", x.callOf(0, 1), 10);
        DUE.same("drop: the CALL that is gone", x.callOf(1, 0), Scene.BAD);
        DUE.same("drop the first", x.drop(), 0);
        Scene.refused(DUE, x, "drop, none there", Scene.STUCK, () -> x.drop());
        Scene.read(x, "call de 3 4");
        DUE.same("a CALL behind drop: size", x.callOf(0, 0), 2);
        DUE.same("a CALL behind drop: NOTES", x.callOf(0, 10) * 10 + x.callOf(0, 11), 34);
    }

    private static void promise51() {
        SoupOrHorses x = new SoupOrHorses();
        DUE.same("seed", x.seed(Integer.MIN_VALUE), 1);
        DUE.same("seed again", x.seed(-2), Integer.MIN_VALUE);
        DUE.same("seed 0", x.seed(0), -2);
        DUE.same("seed: status", x.status(8), 0);
        DUE.same("seed refuses nothing", x.status(12), 0);
    }

    private static void promise52And53() {
        SoupOrHorses x = Scene.camp("call abc 10 20;ear 1 2;man 0 1;sure 70;lost 30");
        Scene.refused(DUE, x, "back, nothing kept", Scene.STUCK, () -> x.back());
        x.seed(55);
        Scene.feed(x, "sure");
        DUE.same("image", x.image(), 1);
        Scene.read(x, "call eeee 1 1;ear 5 5;man 1 0;sure 1;lost 2;use 0 99");
        x.tell(0, 1, 77);
        x.seed(66);
        x.days(1);
        x.row(0, 0, 3);
        x.feed('a');
        x.row(9, 0, 0);
        DUE.same("back", x.back(), 1);
        int[] want = {1, 1, 1, 3, 10, 70, 30, 1, 55, 1, 1, -1, 1, 0, 0, 1, 0};
        for (int what = 0; what < want.length; what++) {
            DUE.same("back: status(" + what + ")", x.status(what), want[what]);
        }
        DUE.same("back: USE, COST", x.callOf(0, 1) * 100 + x.callOf(0, 2), 1020);
        DUE.same("back: NOTES", x.callOf(0, 10) + 10 * x.callOf(0, 11) + 100 * x.callOf(0, 12), 210);
        DUE.same("back: EAR", x.earOf(0, 0) * 10 + x.earOf(0, 1), 12);
        DUE.same("back: man", x.manOf(0, 0) * 10 + x.manOf(0, 1), 1);
        x.drop();
        DUE.same("back twice", x.back(), 1);
        DUE.same("back twice: CALLS", x.status(0), 1);
        x.drop();
        DUE.same("image again", x.image(), 1);
        x.ask(0, 5);
        x.back();
        DUE.same("back to the later image", x.status(0) * 1000 + x.status(5), 70);
    }

    private static void promise53Shelves() {
        SoupOrHorses x = Scene.camp("ear 1 2");
        x.show(0, 0);
        x.image();
        x.ear(2, 3);
        x.show(1, 1);
        x.show(2, 0);
        x.show(0, 1);
        x.show(7, 1);
        x.show(6, 0);
        x.show(6, -1);
        Scene.put(x, 3, 4, 5);
        x.back();
        int[] want = {-1, -1, 10, 2, -1, -1, -1, -1};
        for (int s = 0; s < 8; s++) {
            DUE.same("back: holds(" + s + ")", x.holds(s), want[s]);
        }
        DUE.same("back: element", x.element(3, 1), 5);
        x.ear(4, 4);
        DUE.same("back: an EAR again of that number is in no SHELF", x.holds(1), -1);
    }

    private static void promise54() {
        SoupOrHorses x = Scene.camp("call abc 10 20;call de 30 1;ear 1 2;ear 0 0;ear 5 5;"
            + "man 0 1;man 1 0;man 2 1;man 2 1;sure 70;lost 30");
        x.seed(-9);
        Scene.feed(x, "man");
        x.row(0, 0, 0);
        x.show(7, 2);
        x.row(8, 0, 0);
        x.row(8, 0, 0);
        x.set(7, 0, 0);
        x.set(6, 0, 0);
        x.set(6, 0, 0);
        x.set(6, 0, 0);
        x.back();
        x.back();
        for (int i = 0; i < 9; i++) {
            x.ear(0, 0);
        }
        int[] want = {2, 6, 4, 5, 40, 70, 30, 3, -9, 2, 3, -1, 2, 1, 3, 2, 6, -1};
        for (int what = 0; what < want.length; what++) {
            DUE.same("status(" + what + ")", x.status(what), want[what]);
        }
        DUE.same("status(-1)", x.status(-1), -1);
        DUE.same("status(MAX)", x.status(Integer.MAX_VALUE), -1);
        DUE.same("status(MIN)", x.status(Integer.MIN_VALUE), -1);
        DUE.same("status refuses nothing", x.status(12), 2);
    }
}
