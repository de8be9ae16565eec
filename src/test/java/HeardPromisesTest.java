/** Promises 20 to 29: what is heard. */
public final class HeardPromisesTest {
    private static final Due DUE = new Due();

    private static final String CALLS =
        "call abcde 30 10;call abcea 50 20;call eedcb 20 90;call ab 9 5;call abcde 11 40";
    private static final String EARS = ";ear 0 0;ear 1 3;ear 2 0;ear 4 0;ear 3 1;ear 5 1";

    public static void main(String[] args) {
        promise20();
        promise20ByKinds();
        promise21();
        promise21ByEars();
        promise22();
        promise23();
        promise21To23Refuse();
        promise24();
        promise25();
        promise26();
        promise27();
        promise28();
        promise29();
        DUE.end();
    }

    private static void promise20() {
        SoupOrHorses x = Scene.camp(CALLS + EARS);
        heard(x, 0, 0, "01234");
        heard(x, 0, 1, "99934");
        heard(x, 0, 2, "01233");
        heard(x, 0, 3, "91233");
        heard(x, 0, 4, "91239");
        heard(x, 0, 5, "00224");
        heard(x, 1, 3, "91239");
        heard(x, 2, 2, "33321");
        heard(x, 2, 5, "44331");
        heard(x, 3, 1, "99");
        heard(x, 3, 4, "99");
        Scene.refused(DUE, x, "heard CALL -1", Scene.BAD, () -> x.heard(-1, 0, 0));
        Scene.refused(DUE, x, "heard CALL 5", Scene.BAD, () -> x.heard(5, 0, 0));
        Scene.refused(DUE, x, "heard EAR -1", Scene.BAD, () -> x.heard(0, -1, 0));
        Scene.refused(DUE, x, "heard EAR 6", Scene.BAD, () -> x.heard(0, 6, 0));
        Scene.refused(DUE, x, "heard NOTE -1", Scene.BAD, () -> x.heard(0, 0, -1));
        Scene.refused(DUE, x, "heard NOTE 5", Scene.BAD, () -> x.heard(0, 0, 5));
    }

    private static void promise20ByKinds() {
        heardByOne("call abcdeedc 1 1;ear 1 0", "01234432");
        heardByOne("call abcdeedc 1 1;ear 1 9", "99999999");
        heardByOne("call abcdeedc 1 1;ear 3 0", "01234439");
        heardByOne("call abcdeedc 1 1;ear 3 7", "99999999");
        heardByOne("call a 1 1;ear 3 0", "9");
        heardByOne("call abcdeedc 1 1;ear 2 9", "01233332");
        heardByOne("call eaeaabaa 1 1;ear 4 3", "39399199");
        heardByOne("call abcdeedc 1 1;ear 5 0", "00123443");
        heardByOne("call abcdeedc 1 1;ear 5 2", "01134432");
        heardByOne("call abcdeabc 1 1;ear 5 2", "01134412");
        heardByOne("call abcdeedc 1 1;ear 5 7", "01234433");
        heardByOne("call abcdeedc 1 1;ear 5 8", "01234432");
    }

    private static void heardByOne(String text, String want) {
        heard(Scene.camp(text), 0, 0, want);
    }

    private static void heard(SoupOrHorses x, int call, int ear, String want) {
        DUE.same("heard: size", x.callOf(call, 0), want.length());
        for (int i = 0; i < want.length(); i++) {
            String what = "heard(" + call + ", " + ear + ", " + i + ") of " + want;
            DUE.same(what, x.heard(call, ear, i), want.charAt(i) - '0');
        }
    }

    private static void promise21() {
        SoupOrHorses x = Scene.camp(CALLS + EARS);
        Scene.put(x, 0, 0, 1, 2, 3, 4, 9);
        fit(x, 0, false, 0, "11111");
        fit(x, 0, true, 0, "00000");
        fit(x, 1, false, 0, "11011");
        fit(x, 2, true, 0, "00010");
        fit(x, 3, false, 0, "11001");
        fit(x, 3, true, 0, "00000");
        fit(x, 4, false, 0, "10001");
        fit(x, 5, true, 0, "10001");
        fit(x, 6, false, 0, "00000");
        Scene.put(x, 0, 9, 9, 9, 9, 9);
        fit(x, 5, true, 0, "11101");
        fit(x, 2, false, 0, "11111");
        Scene.put(x, 0, 0, 9, 2, 9, 0);
        fit(x, 5, true, 0, "01000");
        fit(x, 4, false, 0, "11001");
    }

    private static void promise21ByEars() {
        SoupOrHorses x = Scene.camp(CALLS + EARS);
        Scene.put(x, 0, 4, 4, 4, 3, 4);
        fit(x, 5, true, 1, "10001");
        fit(x, 3, false, 1, "11101");
        fit(x, 2, true, 1, "00010");
        Scene.put(x, 0, 3, 3, 3, 2, 1);
        fit(x, 5, true, 2, "00100");
        Scene.put(x, 0, 4, 4, 3, 2, 1);
        fit(x, 5, true, 2, "00000");
        Scene.put(x, 0, 3, 1, 2, 3, 3);
        fit(x, 5, true, 3, "11001");
        Scene.put(x, 0, 3, 1, 2, 3, 2);
        fit(x, 5, true, 3, "01000");
        Scene.put(x, 0, 2, 1, 2, 4, 3);
        fit(x, 5, true, 4, "01000");
        Scene.put(x, 0, 0, 0, 2, 2, 0);
        fit(x, 5, true, 5, "01000");
    }

    private static void fit(SoupOrHorses x, int n, boolean over, int ear, String want) {
        for (int call = 0; call < want.length(); call++) {
            String what = "fits(n " + n + ", " + over + ", EAR " + ear + ", CALL " + call + ")";
            DUE.same(what, x.fits(0, n, over, ear, call), want.charAt(call) - '0');
        }
    }

    private static void promise22() {
        SoupOrHorses x = Scene.camp(CALLS + EARS);
        Scene.put(x, 0, 0, 1, 2, 3, 4);
        int[] behind3 = {329, 549, 0, 0, 120};
        int[] over = {731, 0, 0, 0, 268};
        for (int call = 0; call < 5; call++) {
            DUE.same("likely behind 3", x.likely(0, 3, false, 0, call), behind3[call]);
            DUE.same("likely, OVER", x.likely(0, 5, true, 0, call), over[call]);
        }
        DUE.same("likely, alone", x.likely(0, 2, true, 0, 3), 1000);
        DUE.same("likely by FAR", x.likely(0, 3, false, 3, 1), 549);
        DUE.same("likely, none fits", x.likely(0, 3, true, 0, 0), 0);
    }

    private static void promise23() {
        SoupOrHorses x = Scene.camp(CALLS + EARS);
        Scene.put(x, 0, 0, 1, 2, 3, 4);
        DUE.same("guess behind none", x.guess(0, 0, false, 0), 1);
        DUE.same("guess, OVER behind none", x.guess(0, 0, true, 0), -1);
        DUE.same("guess behind 3", x.guess(0, 3, false, 0), 1);
        DUE.same("guess behind 4", x.guess(0, 4, false, 0), 0);
        DUE.same("guess, OVER behind 2", x.guess(0, 2, true, 0), 3);
        DUE.same("guess, OVER behind 3", x.guess(0, 3, true, 0), -1);
        DUE.same("guess by SPLIT", x.guess(0, 4, false, 2), 1);
        x.tell(4, 0, 30);
        DUE.same("guess, the first of two", x.guess(0, 5, true, 0), 0);
        x.tell(4, 0, 31);
        DUE.same("guess, the one of more USE", x.guess(0, 5, true, 0), 4);
        DUE.same("guess: NONE isn't refused", x.status(12) + x.status(15), 0);
    }

    private static void promise21To23Refuse() {
        SoupOrHorses x = Scene.camp("call abc 1 1;ear 0 0");
        Scene.put(x, 0, 0, 1, 2, 5);
        x.show(1, 0);
        int[][] calls = {
            {-1, 1, 0, 0, Scene.BAD}, {8, 1, 0, 0, Scene.BAD}, {1, -1, 0, 0, Scene.BAD},
            {2, 9, 0, 0, Scene.BAD}, {1, 1, -1, 0, Scene.BAD}, {2, 1, 1, 0, Scene.BAD},
            {1, 1, 0, 0, Scene.OTHER}, {2, 1, 0, 0, Scene.NOTHING}, {0, 5, 0, 0, Scene.BAD},
            {0, 4, 0, 0, Scene.STUCK}, {0, 3, 0, 0, 1}};
        for (int[] c : calls) {
            if (c[4] < 0) {
                String what = "(" + c[0] + ", " + c[1] + ", EAR " + c[2] + ")";
                Scene.refused(DUE, x, "fits" + what, c[4], () -> x.fits(c[0], c[1], true, c[2], 0));
                Scene.refused(DUE, x, "likely" + what, c[4],
                    () -> x.likely(c[0], c[1], false, c[2], 0));
            }
        }
        SoupOrHorses y = Scene.camp("call abc 1 1;ear 0 0");
        Scene.put(y, 0, 0, 1, 2, 5);
        y.show(1, 0);
        for (int[] c : calls) {
            if (c[4] < 0) {
                String what = "(" + c[0] + ", " + c[1] + ", EAR " + c[2] + ")";
                Scene.refused(DUE, y, "guess" + what, c[4], () -> y.guess(c[0], c[1], true, c[2]));
            }
        }
        Scene.refused(DUE, y, "fits, CALL -1", Scene.BAD, () -> y.fits(1, 1, true, 0, -1));
        Scene.refused(DUE, y, "likely, CALL 1", Scene.BAD, () -> y.likely(0, 4, true, 0, 1));
        long[] noNotes = {-1, 8, 10, (1L << 32) + 9, 1L << 32};
        y.row(3, 3, 1);
        for (long v : noNotes) {
            y.set(3, 0, v);
            Scene.refused(DUE, y, "fits with " + v, Scene.STUCK, () -> y.fits(3, 1, false, 0, 0));
        }
    }

    private static void promise24() {
        SoupOrHorses x = Scene.camp(CALLS);
        int[][] want = {{0, 2, 5, 3, 0}, {2, 0, 5, 3, 2}, {5, 5, 0, 5, 5}, {3, 3, 5, 0, 3}, {0, 2, 5, 3, 0}};
        for (int call = 0; call < 5; call++) {
            for (int other = 0; other < 5; other++) {
                DUE.same("apart(" + call + ", " + other + ")", x.apart(call, other), want[call][other]);
            }
        }
        DUE.same("apart, a of 1 and of 8", Scene.camp("call a 1 1;call aaaaaaaa 1 1").apart(0, 1), 7);
        DUE.same("apart in all 8", Scene.camp("call b 1 1;call aaaaaaaa 1 1").apart(1, 0), 8);
        DUE.same("apart in the last", Scene.camp("call aaaaaaaa 1 1;call aaaaaaae 1 1").apart(1, 0), 1);
        Scene.refused(DUE, x, "apart(-1, 0)", Scene.BAD, () -> x.apart(-1, 0));
        Scene.refused(DUE, x, "apart(5, 0)", Scene.BAD, () -> x.apart(5, 0));
        Scene.refused(DUE, x, "apart(0, -1)", Scene.BAD, () -> x.apart(0, -1));
        Scene.refused(DUE, x, "apart(0, 5)", Scene.BAD, () -> x.apart(0, 5));
    }

    private static void promise25() {
        SoupOrHorses x = Scene.camp(CALLS + EARS);
        known(x, 0, -1, 4, 1, 3, -1);
        known(x, 1, -1, 4, 4, 3, -1);
        known(x, 2, -1, 5, 1, 3, -1);
        known(x, 3, -1, -1, 2, 3, -1);
        known(x, 4, -1, 4, 3, 3, -1);
        known(x, 5, -1, 5, 1, 3, -1);
        known(Scene.camp("call abcdeabc 1 1;ear 1 9"), 0, 0);
        known(Scene.camp("call a 1 1;call ab 1 1;ear 0 0"), 0, 2, 2);
        DUE.same("known: NONE isn't refused", x.status(12) + x.status(15), 0);
        Scene.refused(DUE, x, "known(-1, 0)", Scene.BAD, () -> x.known(-1, 0));
        Scene.refused(DUE, x, "known(5, 0)", Scene.BAD, () -> x.known(5, 0));
        Scene.refused(DUE, x, "known(0, -1)", Scene.BAD, () -> x.known(0, -1));
        Scene.refused(DUE, x, "known(0, 6)", Scene.BAD, () -> x.known(0, 6));
    }

    private static void known(SoupOrHorses x, int ear, int... want) {
        for (int call = 0; call < want.length; call++) {
            DUE.same("known(" + call + ", " + ear + ")", x.known(call, ear), want[call]);
        }
    }

    private static void promise26() {
        SoupOrHorses x = Scene.camp(CALLS + EARS);
        DUE.same("earFor, the first", x.earFor(1), 0);
        DUE.same("earFor, all NONE", x.earFor(0), 0);
        DUE.same("earFor, NONE is most",
            Scene.camp("call ab 1 1;call cb 1 1;call abc 1 1;ear 1 1;ear 0 0").earFor(0), 1);
        DUE.same("earFor, fewer behind",
            Scene.camp("call eab 1 1;call dbb 1 1;ear 2 0;ear 0 0;ear 5 9").earFor(0), 1);
        DUE.same("earFor, the only EAR", Scene.camp("call a 1 1;ear 1 5").earFor(0), 0);
        SoupOrHorses y = Scene.camp("call a 1 1");
        Scene.refused(DUE, y, "earFor(-1)", Scene.BAD, () -> y.earFor(-1));
        Scene.refused(DUE, y, "earFor(1)", Scene.BAD, () -> y.earFor(1));
        Scene.refused(DUE, y, "earFor, no EARS", Scene.STUCK, () -> y.earFor(0));
    }

    private static void promise27() {
        SoupOrHorses x = Scene.camp(CALLS + EARS);
        DUE.same("mean", x.mean(0), 4450);
        x.tell(3, 0, 10);
        DUE.same("mean, cut", x.mean(0), 4438);
        DUE.same("mean of one", Scene.camp("call abc 7 1;ear 0 0").mean(0), 0);
        DUE.same("mean of two", Scene.camp("call abc 7 1;call abc 1 1;ear 0 0").mean(0), 5000);
        SoupOrHorses y = Scene.camp("ear 0 0");
        Scene.refused(DUE, y, "mean(-1)", Scene.BAD, () -> y.mean(-1));
        Scene.refused(DUE, y, "mean(1)", Scene.BAD, () -> y.mean(1));
        Scene.refused(DUE, y, "mean, no CALLS", Scene.STUCK, () -> y.mean(0));
    }

    private static void promise28() {
        SoupOrHorses x = Scene.camp(CALLS + ";ear 1 9;ear 0 0");
        DUE.same("worst by TORN", x.worst(0), 0);
        DUE.same("worst by EAR", x.worst(1), 0);
        x.tell(2, 1, 0);
        DUE.same("worst by TORN, another COST", x.worst(0), 2);
        x.tell(4, 1, 0);
        DUE.same("worst by EAR, another COST", x.worst(1), 4);
        x.tell(0, 1, 0);
        DUE.same("worst, none has a RISK", x.worst(1), 0);
        DUE.same("worst of one", Scene.camp("call abc 7 1;ear 0 0").worst(0), 0);
        SoupOrHorses y = Scene.camp("ear 0 0");
        Scene.refused(DUE, y, "worst(-1)", Scene.BAD, () -> y.worst(-1));
        Scene.refused(DUE, y, "worst(1)", Scene.BAD, () -> y.worst(1));
        Scene.refused(DUE, y, "worst, no CALLS", Scene.STUCK, () -> y.worst(0));
    }

    private static void promise29() {
        SoupOrHorses x = Scene.camp(CALLS + EARS);
        Scene.put(x, 0, 0, 1, 2, 3, 4, 5);
        DUE.same("next behind none", x.next(0, 0, 0), 17);
        DUE.same("next behind 2", x.next(0, 2, 0), 68);
        DUE.same("next behind 3", x.next(0, 3, 0), 24);
        DUE.same("next behind 3 by SPLIT", x.next(0, 3, 2), 8);
        DUE.same("next behind 4 by FAR", x.next(0, 3, 3), 8);
        DUE.same("next behind 5", x.next(0, 5, 0), 64);
        DUE.same("next behind 1 by LATE", x.next(0, 1, 4), 50);
        Scene.put(x, 1, 9, 9, 9, 9, 9, 9, 9, 9);
        DUE.same("next behind 4 by LATE", x.next(1, 4, 4), 32);
        DUE.same("next behind 5 by LATE", x.next(1, 5, 4), 64);
        DUE.same("next behind 6 by LATE", x.next(1, 6, 4), 0);
        DUE.same("next behind 8", x.next(1, 8, 4), 0);
        SoupOrHorses y = Scene.camp("call abcdeabc 7 1;ear 0 0");
        Scene.put(y, 0, 0, 1, 2, 3, 4, 0, 1, 2);
        DUE.same("next of one", y.next(0, 7, 0), 4);
        DUE.same("next of one behind 8", y.next(0, 8, 0), 64);
        x.show(2, 0);
        Scene.refused(DUE, x, "next(-1)", Scene.BAD, () -> x.next(-1, 0, 0));
        Scene.refused(DUE, x, "next n 9", Scene.BAD, () -> x.next(2, 9, 0));
        Scene.refused(DUE, x, "next n -1", Scene.BAD, () -> x.next(3, -1, 0));
        Scene.refused(DUE, x, "next EAR 6", Scene.BAD, () -> x.next(2, 0, 6));
        Scene.refused(DUE, x, "next of an EAR", Scene.OTHER, () -> x.next(2, 0, 0));
        Scene.refused(DUE, x, "next of NOTHING", Scene.NOTHING, () -> x.next(3, 0, 0));
        Scene.refused(DUE, x, "next of fewer", Scene.BAD, () -> x.next(0, 7, 0));
        Scene.refused(DUE, x, "next of no NOTE", Scene.STUCK, () -> x.next(0, 6, 0));
    }
}
