/** Promises 1 to 8: a new object, and the SHELVES. */
public final class ShelfPromisesTest {
    private static final Due DUE = new Due();

    public static void main(String[] args) {
        promise1();
        promise2();
        promise3();
        promise3KeepsLowestBits();
        promise4();
        promise4Refuses();
        promise5();
        promise6();
        promise7();
        promise8();
        promise8Refuses();
        DUE.end();
    }

    private static void promise1() {
        SoupOrHorses x = new SoupOrHorses();
        int[] want = {0, 0, 0, 0, 0, 600, 20, 0, 1, 0, 0, -1, 0, 0, 0, 0, 0};
        for (int what = 0; what < want.length; what++) {
            DUE.same("new: status(" + what + ")", x.status(what), want[what]);
        }
        for (int s = 0; s < 8; s++) {
            DUE.same("new: holds", x.holds(s), -1);
        }
        DUE.same("new: wipe", x.wipe(), 0);
    }

    private static void promise2() {
        SoupOrHorses x = new SoupOrHorses();
        for (int sort = 0; sort < 5; sort++) {
            DUE.same("row", x.row(sort, sort, 40), 1);
            DUE.same("row: holds", x.holds(sort), sort);
            DUE.same("row: element", x.element(sort, 39), 0);
        }
        DUE.same("row of none", x.row(7, 0, 0), 1);
        DUE.same("row of none: holds", x.holds(7), 0);
        DUE.same("row of none: no element", x.set(7, 0, 1), Scene.BAD);
        DUE.same("row of 40: no element more", x.set(0, 40, 1), Scene.BAD);
        x.set(0, 3, 77);
        DUE.same("row again", x.row(0, 0, 4), 1);
        DUE.same("row again: element", x.element(0, 3), 0);
        x.ear(0, 0);
        x.show(1, 0);
        DUE.same("row for an EAR", x.row(1, 3, 1), 1);
        DUE.same("row for an EAR: holds", x.holds(1), 3);
        Scene.refused(DUE, x, "row(-1, 0, 1)", Scene.BAD, () -> x.row(-1, 0, 1));
        Scene.refused(DUE, x, "row(8, 0, 1)", Scene.BAD, () -> x.row(8, 0, 1));
        Scene.refused(DUE, x, "row(0, -1, 1)", Scene.BAD, () -> x.row(0, -1, 1));
        Scene.refused(DUE, x, "row(0, 5, 1)", Scene.BAD, () -> x.row(0, 5, 1));
        Scene.refused(DUE, x, "row(0, 0, -1)", Scene.BAD, () -> x.row(0, 0, -1));
        Scene.refused(DUE, x, "row(0, 0, 41)", Scene.BAD, () -> x.row(0, 0, 41));
    }

    private static void promise3() {
        SoupOrHorses x = new SoupOrHorses();
        x.row(0, 2, 3);
        DUE.same("set", x.set(0, 2, 5), 1);
        DUE.same("set: element", x.element(0, 2), 5);
        DUE.same("set: the one ahead", x.element(0, 1), 0);
        x.ear(0, 0);
        x.show(1, 0);
        Scene.refused(DUE, x, "set(-1, 0)", Scene.BAD, () -> x.set(-1, 0, 1));
        Scene.refused(DUE, x, "set(8, 9)", Scene.BAD, () -> x.set(8, 9, 1));
        Scene.refused(DUE, x, "set(EAR)", Scene.OTHER, () -> x.set(1, -1, 1));
        Scene.refused(DUE, x, "set(NOTHING)", Scene.NOTHING, () -> x.set(2, -1, 1));
        Scene.refused(DUE, x, "set(0, -1)", Scene.BAD, () -> x.set(0, -1, 1));
        Scene.refused(DUE, x, "set(0, 3)", Scene.BAD, () -> x.set(0, 3, 1));
        Scene.refused(DUE, x, "set(0, MAX)", Scene.BAD, () -> x.set(0, Integer.MAX_VALUE, 1));
    }

    private static void promise3KeepsLowestBits() {
        SoupOrHorses x = new SoupOrHorses();
        long[] values = {200, 40000, 3000000000L, Long.MIN_VALUE, 256};
        long[][] kept = {
            {-56, 64, 94208 % 256, 0, 0},
            {200, -25536, 3000000000L << 48 >> 48, 0, 256},
            {200, 40000, -1294967296, 0, 256},
            {200, 40000, 3000000000L, Long.MIN_VALUE, 256},
            {1, 1, 1, 1, 1}};
        for (int sort = 0; sort < 5; sort++) {
            x.row(0, sort, 6);
            for (int i = 0; i < 5; i++) {
                x.set(0, i, values[i]);
                DUE.same("set in sort " + sort, x.element(0, i), kept[sort][i]);
            }
            x.set(0, 0, 0);
            DUE.same("set 0 in sort " + sort, x.element(0, 0), 0);
            x.set(0, 0, -1);
            DUE.same("set -1 in sort " + sort, x.element(0, 0), sort == 4 ? 1 : -1);
        }
    }

    private static void promise4() {
        SoupOrHorses x = new SoupOrHorses();
        Scene.put(x, 0, 1, 2, 3, 4, 5);
        Scene.put(x, 1, 9, 9, 9);
        DUE.same("copy", x.copy(0, 1, 3, 1, 2), 2);
        elements("copy", x, 1, 9, 4, 5);
        elements("copy leaves", x, 0, 1, 2, 3, 4, 5);
        DUE.same("copy on", x.copy(0, 0, 0, 1, 4), 4);
        elements("copy on", x, 0, 1, 1, 2, 3, 4);
        DUE.same("copy back", x.copy(0, 0, 1, 0, 4), 4);
        elements("copy back", x, 0, 1, 2, 3, 4, 4);
        DUE.same("copy none", x.copy(0, 1, 5, 3, 0), 0);
        elements("copy none", x, 1, 9, 4, 5);
    }

    private static void elements(String what, SoupOrHorses x, int s, int... want) {
        for (int i = 0; i < want.length; i++) {
            DUE.same(what + ": element " + i, x.element(s, i), want[i]);
        }
    }

    private static void promise4Refuses() {
        SoupOrHorses x = new SoupOrHorses();
        x.row(0, 2, 4);
        x.row(1, 2, 3);
        x.row(2, 1, 3);
        x.ear(0, 0);
        x.show(3, 0);
        Scene.refused(DUE, x, "copy(-1, EAR)", Scene.BAD, () -> x.copy(-1, 3, 0, 0, 1));
        Scene.refused(DUE, x, "copy(EAR, 8)", Scene.BAD, () -> x.copy(3, 8, 0, 0, 1));
        Scene.refused(DUE, x, "copy(EAR, NOTHING)", Scene.OTHER, () -> x.copy(3, 5, 0, 0, 1));
        Scene.refused(DUE, x, "copy(NOTHING, EAR)", Scene.OTHER, () -> x.copy(5, 3, 0, 0, 1));
        Scene.refused(DUE, x, "copy(two SORTS)", Scene.OTHER, () -> x.copy(0, 2, 0, 0, 9));
        Scene.refused(DUE, x, "copy(NOTHING, ROW)", Scene.NOTHING, () -> x.copy(5, 0, -1, 0, 1));
        Scene.refused(DUE, x, "copy(ROW, NOTHING)", Scene.NOTHING, () -> x.copy(0, 5, 0, -1, 1));
        Scene.refused(DUE, x, "copy i -1", Scene.BAD, () -> x.copy(0, 1, -1, 0, 1));
        Scene.refused(DUE, x, "copy j -1", Scene.BAD, () -> x.copy(0, 1, 0, -1, 1));
        Scene.refused(DUE, x, "copy n -1", Scene.BAD, () -> x.copy(0, 1, 0, 0, -1));
        Scene.refused(DUE, x, "copy beyond p", Scene.BAD, () -> x.copy(0, 1, 3, 0, 2));
        Scene.refused(DUE, x, "copy beyond q", Scene.BAD, () -> x.copy(0, 1, 0, 2, 2));
        Scene.refused(DUE, x, "copy MAX", Scene.BAD,
            () -> x.copy(0, 1, Integer.MAX_VALUE, 0, Integer.MAX_VALUE));
    }

    private static void promise5() {
        SoupOrHorses x = new SoupOrHorses();
        x.row(0, 3, 2);
        x.set(0, 1, 1L << 40);
        x.ear(0, 5);
        x.show(1, 0);
        DUE.same("element", x.element(0, 1), 1L << 40);
        DUE.same("element -1", x.element(0, -1), 0);
        DUE.same("element 2", x.element(0, 2), 0);
        DUE.same("element of an EAR", x.element(1, 0), 0);
        DUE.same("element of NOTHING", x.element(2, 0), 0);
        DUE.same("element of no SHELF", x.element(-1, 0) + x.element(8, 0), 0);
        for (int what = 12; what <= 16; what++) {
            DUE.same("element refuses nothing", x.status(what), 0);
        }
    }

    private static void promise6() {
        SoupOrHorses x = Scene.camp("ear 0 0;ear 1 2");
        x.row(0, 4, 0);
        x.show(7, 1);
        DUE.same("holds a ROW", x.holds(0), 4);
        DUE.same("holds an EAR", x.holds(7), 11);
        DUE.same("holds NOTHING", x.holds(1), -1);
        DUE.same("holds, no SHELF", x.holds(8), -1);
        DUE.same("holds, no SHELF", x.holds(-1), -1);
        DUE.same("holds refuses nothing", x.status(12), 0);
    }

    private static void promise7() {
        SoupOrHorses x = Scene.camp("ear 0 0;ear 1 2");
        x.row(0, 0, 4);
        DUE.same("show", x.show(0, 1), 1);
        DUE.same("show: holds", x.holds(0), 11);
        DUE.same("show: element", x.element(0, 0), 0);
        DUE.same("show NONE", x.show(0, -1), 1);
        DUE.same("show NONE: holds", x.holds(0), -1);
        Scene.refused(DUE, x, "show(-1, 0)", Scene.BAD, () -> x.show(-1, 0));
        Scene.refused(DUE, x, "show(8, -1)", Scene.BAD, () -> x.show(8, -1));
        Scene.refused(DUE, x, "show(0, 2)", Scene.BAD, () -> x.show(0, 2));
        Scene.refused(DUE, x, "show(0, -2)", Scene.BAD, () -> x.show(0, -2));
    }

    private static void promise8() {
        says(0, 7, 0, 7);
        says(1, 3, 0, 3);
        says(1, 3, 1, 3);
        says(1, 0, 1, 0);
        says(1, 9, 1, 8);
        says(2, 6, 0, 6);
        says(2, 6, 2, 3);
        says(3, 2, 0, 2);
        says(3, 2, 1, 3);
        says(3, 2, 3, 3);
        says(3, 0, 3, 1);
        says(3, 7, 3, 8);
        says(3, 8, 3, 8);
        says(4, 5, 0, 5);
        says(4, 5, 2, 3);
        says(4, 5, 4, 3);
        says(5, 1, 0, 1);
        int[] echoed = {7, 4, 2, 2, 1, 1, 1, 1, 0, 0};
        for (int a = 0; a < echoed.length; a++) {
            says(5, a, 5, echoed[a]);
        }
    }

    private static void says(int kind, int a, int takenFor, int want) {
        SoupOrHorses x = new SoupOrHorses();
        x.ear(kind, a);
        x.show(4, 0);
        DUE.same("KIND " + kind + ", a " + a + ", says " + takenFor, x.says(4, takenFor), want);
    }

    private static void promise8Refuses() {
        SoupOrHorses x = new SoupOrHorses();
        String under = "0;01;02;013;024;05";
        String[] kinds = under.split(";");
        for (int kind = 0; kind < 6; kind++) {
            x.ear(kind, 1);
            x.show(0, kind);
            for (int takenFor = 0; takenFor < 6; takenFor++) {
                if (kinds[kind].indexOf('0' + takenFor) < 0) {
                    DUE.same("KIND " + kind + " is no " + takenFor, x.says(0, takenFor), Scene.OTHER);
                }
            }
        }
        x.row(1, 0, 3);
        Scene.refused(DUE, x, "says(-1, 0)", Scene.BAD, () -> x.says(-1, 0));
        Scene.refused(DUE, x, "says(8, 0)", Scene.BAD, () -> x.says(8, 0));
        Scene.refused(DUE, x, "says(ROW, -1)", Scene.BAD, () -> x.says(1, -1));
        Scene.refused(DUE, x, "says(ROW, 6)", Scene.BAD, () -> x.says(1, 6));
        Scene.refused(DUE, x, "says(ROW)", Scene.OTHER, () -> x.says(1, 0));
        Scene.refused(DUE, x, "says(ECHO for TORN)", Scene.OTHER, () -> x.says(0, 1));
        Scene.refused(DUE, x, "says(NOTHING)", Scene.NOTHING, () -> x.says(2, 1));
    }
}
