/** Promises 38 to 47: what the MEN do, what is to be learnt, and told HEARINGS. */
public final class MenPromisesTest {
    private static final Due DUE = new Due();

    private static final String CALLS =
        "call abcde 30 10;call abcea 50 20;call eedcb 20 90;call ab 9 5;call abcde 11 40";
    private static final String EARS = ";ear 0 0;ear 1 3;ear 4 0";

    public static void main(String[] args) {
        promise38();
        promise38ByOthers();
        promise39And40();
        promise41();
        promise42();
        promises38To42Refuse();
        promise43();
        promise44();
        promise45();
        promise45Refuses();
        promise46();
        promise47();
        promise47Refuses();
        DUE.end();
    }

    private static void promise38() {
        SoupOrHorses x = Scene.camp(CALLS + EARS + ";man 0 0;man 1 1;man 2 1;man 2 0");
        does(x, 0, 0, 0, 0, 1);
        does(x, 1, 1, 1, 1, 1);
        does(x, 2, 2, 2, 2, 2);
        does(x, 3, 3, 3, 3, 3);
        does(x, 4, 0, 0, 0, 1);
        x.ask(0, 549);
        does(x, 0, 0, 0, 1, 1);
        x.ask(0, 550);
        does(x, 0, 0, 0, 0, 1);
        DUE.same("does isn't refused", x.status(12), 0);
    }

    private static void promise38ByOthers() {
        SoupOrHorses tie = Scene.camp(CALLS + EARS + ";man 2 0;man 0 0;man 2 1;man 2 1");
        does(tie, 0, 1, 0, 0, 0);
        SoupOrHorses most = Scene.camp(CALLS + EARS + ";man 2 0;man 2 0;man 0 0;man 2 1");
        does(most, 0, 1, 1, 0, 1);
        SoupOrHorses first = Scene.camp(CALLS + EARS + ";man 2 1;man 2 1;man 0 0;man 0 0;man 0 0");
        does(first, 0, 1, 1, 0, 0, 0);
        SoupOrHorses behind = Scene.camp(CALLS + EARS + ";man 0 0;man 2 1;man 2 0;man 2 0;man 2 0;man 2 1");
        does(behind, 0, 0, 0, 1, 1, 1, 1);
    }

    private static void does(SoupOrHorses x, int call, int... want) {
        for (int man = 0; man < want.length; man++) {
            DUE.same("does(" + call + ", " + man + ")", x.does(call, man), want[man]);
        }
    }

    private static void promise39And40() {
        SoupOrHorses x = Scene.camp(CALLS + EARS + ";man 0 0;man 1 1;man 2 1;man 2 0");
        int[] right = {3, 4, 4, 4, 0};
        int[] leads = {3, -1, -1, -1, 0};
        for (int call = 0; call < 5; call++) {
            DUE.same("right(" + call + ")", x.right(call), right[call]);
            DUE.same("leads(" + call + ")", x.leads(call), leads[call]);
        }
        x.ask(0, 500);
        DUE.same("right, less SURE", x.right(0), 2);
        DUE.same("leads, less SURE", x.leads(0), 2);
        SoupOrHorses y = Scene.camp(CALLS);
        DUE.same("right, no MEN", y.right(0), 0);
        DUE.same("leads, no MEN", y.leads(0), -1);
    }

    private static void promise41() {
        SoupOrHorses x = Scene.camp(CALLS + EARS + ";man 2 0;man 0 0;man 2 1;man 2 1");
        DUE.same("follows", x.follows(0), 12);
        DUE.same("follows, nobody", x.follows(1), 0);
        x.ask(0, 549);
        DUE.same("follows, less SURE", x.follows(0), 0);
        DUE.same("follows, no MEN", Scene.camp("call a 1 1").follows(0), 0);
        SoupOrHorses y = Scene.camp(CALLS + EARS
            + ";man 0 0;man 2 1;man 2 1;man 2 1;man 2 1;man 2 1;man 2 1;man 2 1");
        DUE.same("follows, all but the first", y.follows(0), 254);
    }

    private static void promise42() {
        SoupOrHorses x = Scene.camp(CALLS + EARS + ";man 0 0;man 1 1;man 2 1");
        int[] want = {550, 0, 0, 0, -1};
        for (int call = 0; call < 5; call++) {
            DUE.same("sureFor(" + call + ")", x.sureFor(call), want[call]);
        }
        DUE.same("sureFor leaves SURE", x.status(5), 600);
        DUE.same("sureFor, no MEN", Scene.camp("call a 1 1").sureFor(0), 0);
        // 99 of 99 and 1 are 990: just 990 is SURE for him still.
        SoupOrHorses y = Scene.camp("call a 1 0;call b 99 0;ear 0 0;ear 1 1;man 0 0;man 1 1");
        DUE.same("sureFor, the last step", y.sureFor(0), 1000);
        DUE.same("sureFor isn't refused", x.status(12) + x.status(15), 0);
    }

    private static void promises38To42Refuse() {
        SoupOrHorses x = Scene.camp("call a 1 1;ear 0 0;man 0 0");
        Scene.refused(DUE, x, "does(-1, 0)", Scene.BAD, () -> x.does(-1, 0));
        Scene.refused(DUE, x, "does(1, 0)", Scene.BAD, () -> x.does(1, 0));
        Scene.refused(DUE, x, "does(0, -1)", Scene.BAD, () -> x.does(0, -1));
        Scene.refused(DUE, x, "does(0, 1)", Scene.BAD, () -> x.does(0, 1));
        Scene.refused(DUE, x, "right(-1)", Scene.BAD, () -> x.right(-1));
        Scene.refused(DUE, x, "right(1)", Scene.BAD, () -> x.right(1));
        Scene.refused(DUE, x, "leads(-1)", Scene.BAD, () -> x.leads(-1));
        Scene.refused(DUE, x, "leads(1)", Scene.BAD, () -> x.leads(1));
        Scene.refused(DUE, x, "follows(-1)", Scene.BAD, () -> x.follows(-1));
        Scene.refused(DUE, x, "follows(1)", Scene.BAD, () -> x.follows(1));
        Scene.refused(DUE, x, "sureFor(-1)", Scene.BAD, () -> x.sureFor(-1));
        Scene.refused(DUE, x, "sureFor(1)", Scene.BAD, () -> x.sureFor(1));
    }

    private static void promise43() {
        SoupOrHorses x = Scene.camp(CALLS + ";ear 0 0;ear 1 9");
        int[] byEar = {10, 0, 0, 0, 7};
        int[] byTorn = {29, 22, 15, 0, 27};
        for (int call = 0; call < 5; call++) {
            DUE.same("risk(" + call + ", EAR)", x.risk(call, 0), byEar[call]);
            DUE.same("risk(" + call + ", TORN)", x.risk(call, 1), byTorn[call]);
        }
        DUE.same("risk of one", Scene.camp("call a 1 99;ear 0 0").risk(0, 0), 0);
        DUE.same("risk of two", Scene.camp("call a 1 99;call a 1 3;ear 0 0").risk(0, 0), 1);
        Scene.refused(DUE, x, "risk(-1, 0)", Scene.BAD, () -> x.risk(-1, 0));
        Scene.refused(DUE, x, "risk(5, 0)", Scene.BAD, () -> x.risk(5, 0));
        Scene.refused(DUE, x, "risk(0, -1)", Scene.BAD, () -> x.risk(0, -1));
        Scene.refused(DUE, x, "risk(0, 2)", Scene.BAD, () -> x.risk(0, 2));
    }

    private static void promise44() {
        SoupOrHorses x = Scene.camp(CALLS);
        learn(x, 2, 1, 4, 0, 3);
        learn(Scene.camp("call a 2 6;call a 1 0;call a 4 3;call a 2 0;call a 99 99;call a 3 4"),
            4, 0, 2, 5, 1, 3);
        Scene.refused(DUE, x, "learn(-1)", Scene.BAD, () -> x.learn(-1));
        Scene.refused(DUE, x, "learn(5)", Scene.BAD, () -> x.learn(5));
    }

    private static void learn(SoupOrHorses x, int... want) {
        for (int i = 0; i < want.length; i++) {
            DUE.same("learn(" + i + ")", x.learn(i), want[i]);
        }
    }

    private static void promise45() {
        SoupOrHorses x = Scene.camp(CALLS);
        nearest(x, 0, 0, 0, 1, 2, 3, 4);
        nearest(x, 1, 0, 0, 1, 2, 4, 9);
        nearest(x, 0, 0, 9, 9, 9, 9, 9);
        nearest(x, 2, 3, 9, 9, 3, 2, 2, 2, 9);
        nearest(x, 3, 2, 4, 4);
        nearest(x, 3, 1, 9, 9, 9);
        nearest(x, 3, 2);
        nearest(x, 2, 1, 4, 4, 3, 3, 1);
        nearest(Scene.camp("call aa 1 1;call bb 1 1;call cc 1 1"), 0, 1, 0, 1);
        nearest(Scene.camp("call aa 1 1;call bb 1 1;call cc 1 1"), 1, 0, 9, 1);
    }

    private static void nearest(SoupOrHorses x, int call, int far, int... told) {
        Scene.put(x, 0, told);
        String what = "nearest to " + java.util.Arrays.toString(told);
        DUE.same(what, x.nearest(0, told.length, 0), call);
        DUE.same(what + ": by how many", x.nearest(0, told.length, 1), far);
    }

    private static void promise45Refuses() {
        SoupOrHorses x = Scene.camp("call abc 1 1;ear 0 0");
        refuseNearest(x);
        Scene.put(x, 0, 0, 1, 5);
        Scene.refused(DUE, x, "nearest of no NOTE", Scene.STUCK, () -> x.nearest(0, 3, 0));
        DUE.same("nearest ahead of that", x.nearest(0, 2, 0), 0);
        x.drop();
        Scene.refused(DUE, x, "nearest, no CALLS", Scene.STUCK, () -> x.nearest(0, 2, 0));
        refuseNearest(x);
    }

    private static void refuseNearest(SoupOrHorses x) {
        Scene.put(x, 0, 0, 1, 5);
        x.show(1, 0);
        Scene.refused(DUE, x, "nearest(-1)", Scene.BAD, () -> x.nearest(-1, 0, 0));
        Scene.refused(DUE, x, "nearest(8)", Scene.BAD, () -> x.nearest(8, 0, 0));
        Scene.refused(DUE, x, "nearest n -1", Scene.BAD, () -> x.nearest(1, -1, 0));
        Scene.refused(DUE, x, "nearest n 9", Scene.BAD, () -> x.nearest(1, 9, 0));
        Scene.refused(DUE, x, "nearest what -1", Scene.BAD, () -> x.nearest(1, 0, -1));
        Scene.refused(DUE, x, "nearest what 2", Scene.BAD, () -> x.nearest(2, 0, 2));
        Scene.refused(DUE, x, "nearest of an EAR", Scene.OTHER, () -> x.nearest(1, 0, 0));
        Scene.refused(DUE, x, "nearest of NOTHING", Scene.NOTHING, () -> x.nearest(2, 0, 0));
        Scene.refused(DUE, x, "nearest of fewer", Scene.BAD, () -> x.nearest(0, 4, 0));
    }

    private static void promise46() {
        SoupOrHorses x = Scene.camp("ear 0 0");
        Scene.put(x, 0, 0, 4, 9, 5, 0, 8);
        DUE.same("judge", x.judge(0, 6), 3);
        DUE.same("judge ahead of it", x.judge(0, 3), -1);
        DUE.same("judge with it", x.judge(0, 4), 3);
        DUE.same("judge of none", x.judge(0, 0), -1);
        x.row(1, 3, 40);
        DUE.same("judge of 40", x.judge(1, 40), -1);
        long[] noNotes = {-1, 5, 8, 10, 1L << 32, (1L << 32) + 9, Long.MIN_VALUE};
        for (long v : noNotes) {
            x.set(1, 39, v);
            DUE.same("judge with " + v, x.judge(1, 40), 39);
        }
        x.show(2, 0);
        Scene.refused(DUE, x, "judge(-1)", Scene.BAD, () -> x.judge(-1, 0));
        Scene.refused(DUE, x, "judge(8)", Scene.BAD, () -> x.judge(8, 0));
        Scene.refused(DUE, x, "judge n -1", Scene.BAD, () -> x.judge(2, -1));
        Scene.refused(DUE, x, "judge n 41", Scene.BAD, () -> x.judge(3, 41));
        Scene.refused(DUE, x, "judge of an EAR", Scene.OTHER, () -> x.judge(2, 0));
        Scene.refused(DUE, x, "judge of NOTHING", Scene.NOTHING, () -> x.judge(3, 0));
        Scene.refused(DUE, x, "judge of fewer", Scene.BAD, () -> x.judge(0, 7));
    }

    private static void promise47() {
        SoupOrHorses x = Scene.camp(CALLS + EARS);
        Scene.put(x, 0, 0, 1, 2, 4);
        Scene.put(x, 1, 4, 4, 3);
        Scene.put(x, 2, 2, 2);
        DUE.same("when, behind 4", x.when(0, 4, 0), 4);
        DUE.same("when, not behind 3", x.when(0, 3, 0), -1);
        DUE.same("when, behind 1", x.when(1, 3, 0), 1);
        DUE.same("when by TORN", x.when(0, 4, 1), 4);
        DUE.same("when, nothing FITS", x.when(2, 2, 0), -1);
        x.ask(0, 416);
        DUE.same("when, behind none", x.when(2, 2, 0), 0);
        x.ask(0, 417);
        DUE.same("when, behind none no more", x.when(0, 4, 0), 1);
        DUE.same("when: NONE isn't refused", x.status(12) + x.status(15), 0);
        SoupOrHorses y = Scene.camp("ear 0 0;sure 0");
        Scene.put(y, 0, 0);
        DUE.same("when, there is no GUESS", y.when(0, 1, 0), -1);
    }

    private static void promise47Refuses() {
        SoupOrHorses x = Scene.camp("call abc 1 1;ear 0 0");
        Scene.put(x, 0, 0, 1, 5);
        x.show(1, 0);
        Scene.refused(DUE, x, "when(8)", Scene.BAD, () -> x.when(8, 0, 0));
        Scene.refused(DUE, x, "when n 9", Scene.BAD, () -> x.when(1, 9, 0));
        Scene.refused(DUE, x, "when n -1", Scene.BAD, () -> x.when(2, -1, 0));
        Scene.refused(DUE, x, "when EAR 1", Scene.BAD, () -> x.when(1, 0, 1));
        Scene.refused(DUE, x, "when of an EAR", Scene.OTHER, () -> x.when(1, 0, 0));
        Scene.refused(DUE, x, "when of NOTHING", Scene.NOTHING, () -> x.when(2, 0, 0));
        Scene.refused(DUE, x, "when of fewer", Scene.BAD, () -> x.when(0, 4, 0));
        Scene.refused(DUE, x, "when of no NOTE", Scene.STUCK, () -> x.when(0, 3, 0));
        DUE.same("when, alone", x.when(0, 2, 0), 0);
    }
}
