/** Promises 30 to 37: how alike the CALLS are. */
public final class LikenessPromisesTest {
    private static final Due DUE = new Due();

    private static final String CALLS =
        "call abcde 30 10;call abcea 50 20;call eedcb 20 90;call ab 9 5;call abcde 11 40";

    public static void main(String[] args) {
        promise30();
        promise31();
        promise32();
        promise33();
        promise33Refuses();
        promise34();
        promise35();
        promise36();
        promise37();
        DUE.end();
    }

    private static void promise30() {
        SoupOrHorses x = Scene.camp(CALLS);
        DUE.same("alikeFirst, 3", x.alikeFirst(0, 1), 3);
        DUE.same("alikeFirst, all", x.alikeFirst(4, 0), 5);
        DUE.same("alikeFirst, all of the shorter", x.alikeFirst(3, 0), 2);
        DUE.same("alikeFirst, none", x.alikeFirst(0, 2), 0);
        DUE.same("alikeFirst of one", x.alikeFirst(1, 1), 5);
        DUE.same("alikeFirst, none behind one that differs",
            Scene.camp("call abab 1 1;call aaab 1 1").alikeFirst(0, 1), 1);
        Scene.refused(DUE, x, "alikeFirst(-1, 0)", Scene.BAD, () -> x.alikeFirst(-1, 0));
        Scene.refused(DUE, x, "alikeFirst(5, 0)", Scene.BAD, () -> x.alikeFirst(5, 0));
        Scene.refused(DUE, x, "alikeFirst(0, -1)", Scene.BAD, () -> x.alikeFirst(0, -1));
        Scene.refused(DUE, x, "alikeFirst(0, 5)", Scene.BAD, () -> x.alikeFirst(0, 5));
    }

    private static void promise31() {
        SoupOrHorses x = Scene.camp(CALLS);
        int[] want = {5, 5, 4, 3, 5};
        for (int note = 0; note < 5; note++) {
            DUE.same("notes(" + note + ")", x.notes(note), want[note]);
        }
        DUE.same("notes of none", new SoupOrHorses().notes(0), 0);
        Scene.refused(DUE, x, "notes(-1)", Scene.BAD, () -> x.notes(-1));
        Scene.refused(DUE, x, "notes(5)", Scene.BAD, () -> x.notes(5));
        Scene.refused(DUE, x, "notes(9)", Scene.BAD, () -> x.notes(9));
    }

    private static void promise32() {
        DUE.same("twins", Scene.camp(CALLS).twins(), 2);
        DUE.same("twins, none", Scene.camp("call a 1 1;call aa 1 1;call b 1 1").twins(), 0);
        DUE.same("twins of three and two",
            Scene.camp("call a 1 1;call ab 2 1;call a 3 1;call ab 1 1;call a 1 1;call c 1 1").twins(), 5);
        DUE.same("twins, no CALLS", new SoupOrHorses().twins(), 0);
    }

    private static void promise33() {
        SoupOrHorses x = Scene.camp(CALLS);
        DUE.same("change, as it is", x.change(0, 0), 0);
        DUE.same("change, 1 from its like", x.change(0, 1), 1);
        DUE.same("change, 2 from its like", x.change(0, 2), 2);
        change("call a 1 1;call b 1 1;call c 1 1", 0, 1, 0);
        change("call a 1 1;call b 1 1;call c 1 1", 0, 2, -1);
        change("call aa 1 1;call ab 1 1", 0, 1, 0);
        change("call aa 1 1;call ab 1 1", 0, 2, 1);
        change("call aa 1 1;call ab 1 1;call bb 1 1", 0, 2, 1);
        change("call aa 1 1;call ab 1 1", 0, 3, -1);
        change("call aa 1 1;call aabb 1 1", 0, 2, 0);
        change("call aa 1 1;call aabb 1 1", 0, 3, 1);
        change("call aa 1 1;call aabb 1 1", 0, 4, 2);
        change("call aa 1 1;call aabb 1 1", 0, 5, -1);
        change("call a 1 1;call aaaaaaaa 1 1", 0, 8, 1);
        change("call a 1 1", 0, 8, 0);
        change("call aaaaa 1 1;call aaaaa 1 1", 1, 5, 5);
        DUE.same("change changes nothing", x.callOf(0, 10), 0);
        DUE.same("change: NONE isn't refused",
            Scene.camp("call a 1 1").status(12) + x.status(12) + x.status(15), 0);
    }

    private static void change(String text, int call, int d, int want) {
        SoupOrHorses x = Scene.camp(text);
        DUE.same("change(" + call + ", " + d + ") of " + text, x.change(call, d), want);
        DUE.same("change isn't refused", x.status(12) + x.status(15), 0);
    }

    private static void promise33Refuses() {
        SoupOrHorses x = Scene.camp("call abcde 1 1;call abcdea 1 1");
        Scene.refused(DUE, x, "change(-1, 0)", Scene.BAD, () -> x.change(-1, 0));
        Scene.refused(DUE, x, "change(2, 0)", Scene.BAD, () -> x.change(2, 0));
        Scene.refused(DUE, x, "change d -1", Scene.BAD, () -> x.change(0, -1));
        Scene.refused(DUE, x, "change d 9", Scene.BAD, () -> x.change(1, 9));
        Scene.refused(DUE, x, "change of 6 NOTES", Scene.STUCK, () -> x.change(1, 0));
        DUE.same("change of 5 NOTES", x.change(0, 2), 1);
    }

    private static void promise34() {
        SoupOrHorses x = Scene.camp(CALLS);
        DUE.same("alike, twins", x.alike(0), 4);
        DUE.same("alike, twins: how far", x.alike(1), 0);
        x.drop();
        DUE.same("alike", x.alike(0), 1);
        DUE.same("alike: how far", x.alike(1), 2);
        DUE.same("alike, the first", Scene.camp("call a 1 1;call b 1 1;call c 1 1").alike(0), 1);
        SoupOrHorses y = Scene.camp("call aaa 1 1;call bbb 1 1;call bbc 1 1;call bcc 1 1");
        DUE.same("alike, two behind", y.alike(0), 102);
        DUE.same("alike, two behind: how far", y.alike(1), 1);
        DUE.same("alike of two", Scene.camp("call a 1 1;call b 1 1").alike(0), 1);
        DUE.same("alike, lengths count", Scene.camp("call a 1 1;call aaaa 1 1;call b 1 1").alike(0), 2);
        Scene.refused(DUE, x, "alike(-1)", Scene.BAD, () -> x.alike(-1));
        Scene.refused(DUE, x, "alike(2)", Scene.BAD, () -> x.alike(2));
        SoupOrHorses z = Scene.camp("call a 1 1");
        Scene.refused(DUE, z, "alike(2) of one", Scene.BAD, () -> z.alike(2));
        Scene.refused(DUE, z, "alike(0) of one", Scene.STUCK, () -> z.alike(0));
        Scene.refused(DUE, z, "alike(1) of one", Scene.STUCK, () -> z.alike(1));
    }

    private static void promise35() {
        SoupOrHorses x = Scene.camp(CALLS + ";ear 0 0;ear 4 0;ear 1 9;ear 1 3");
        int[] count = {1, 3, 6, 1};
        int[] first = {4, 1, 1, 4};
        for (int ear = 0; ear < 4; ear++) {
            DUE.same("mixed by " + ear, x.mixed(ear, 0), count[ear]);
            DUE.same("mixed by " + ear + ": the first", x.mixed(ear, 1), first[ear]);
        }
        SoupOrHorses y = Scene.camp("call ab 1 1;call cd 1 1;call ce 1 1;ear 2 0;ear 0 0");
        DUE.same("mixed by SPLIT", y.mixed(0, 0), 1);
        DUE.same("mixed by SPLIT: the first", y.mixed(0, 1), 102);
        DUE.same("mixed, none", y.mixed(1, 0), 0);
        DUE.same("mixed, none: the first", y.mixed(1, 1), -1);
        DUE.same("mixed: NONE isn't refused", y.status(12) + y.status(15), 0);
        Scene.refused(DUE, x, "mixed(-1, 0)", Scene.BAD, () -> x.mixed(-1, 0));
        Scene.refused(DUE, x, "mixed(4, 0)", Scene.BAD, () -> x.mixed(4, 0));
        Scene.refused(DUE, x, "mixed(0, -1)", Scene.BAD, () -> x.mixed(0, -1));
        Scene.refused(DUE, x, "mixed(0, 2)", Scene.BAD, () -> x.mixed(0, 2));
    }

    private static void promise36() {
        SoupOrHorses x = Scene.camp(CALLS);
        DUE.same("fresh(2, 1)", x.fresh(2, 1), 0);
        DUE.same("fresh(2, 2)", x.fresh(2, 2), 5);
        DUE.same("fresh(2, 3)", x.fresh(2, 3), -1);
        DUE.same("fresh(5, 0)", x.fresh(5, 0), 0);
        DUE.same("fresh(5, 5)", x.fresh(5, 5), 627);
        DUE.same("fresh(5, 6)", x.fresh(5, 6), -1);
        SoupOrHorses y = Scene.camp("call a 1 1;call b 1 1;call c 1 1;call e 1 1");
        DUE.same("fresh(1, 1)", y.fresh(1, 1), 3);
        DUE.same("fresh(2, 2)", y.fresh(2, 2), 15);
        Scene.read(y, "call d 1 1");
        DUE.same("fresh(1, 1) when all are there", y.fresh(1, 1), -1);
        DUE.same("fresh(3, 3), the last place", Scene.camp("call aa 1 1;call bb 1 1;call cc 1 1;"
            + "call dd 1 1").fresh(3, 3), 4 * 25 + 4 * 5);
        DUE.same("fresh: NONE isn't refused", x.status(12) + x.status(15), 0);
        Scene.refused(DUE, x, "fresh(0, 0)", Scene.BAD, () -> x.fresh(0, 0));
        Scene.refused(DUE, x, "fresh(6, 0)", Scene.BAD, () -> x.fresh(6, 0));
        Scene.refused(DUE, x, "fresh(1, -1)", Scene.BAD, () -> x.fresh(1, -1));
        Scene.refused(DUE, x, "fresh(1, 9)", Scene.BAD, () -> x.fresh(1, 9));
    }

    private static void promise37() {
        SoupOrHorses x = Scene.camp(CALLS);
        int[] want = {31, 15, 15, 14, 6, 6, 2, 2, 2};
        for (int d = 0; d < 9; d++) {
            DUE.same("keep(" + d + ")", x.keep(d), want[d]);
        }
        DUE.same("keep, the least bits", Scene.camp("call a 5 0;call a 5 0").keep(1), 1);
        DUE.same("keep, the least bits of two sets",
            Scene.camp("call a 1 1;call b 2 1;call a 2 1;call b 1 1").keep(1), 6);
        DUE.same("keep, as much for more bits",
            Scene.camp("call aa 3 1;call bb 2 1;call aa 3 1;call bb 2 1").keep(1), 3);
        StringBuilder twelve = new StringBuilder("call a 99 1");
        for (int i = 1; i < 12; i++) {
            twelve.append(";call a 99 1");
        }
        DUE.same("keep all of 12", Scene.camp(twelve.toString()).keep(0), 4095);
        DUE.same("keep, no CALLS", new SoupOrHorses().keep(0), 0);
        Scene.refused(DUE, x, "keep(-1)", Scene.BAD, () -> x.keep(-1));
        Scene.refused(DUE, x, "keep(9)", Scene.BAD, () -> x.keep(9));
    }
}
