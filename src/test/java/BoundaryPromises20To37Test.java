import java.util.function.ToLongFunction;

/** The sentences of promises 20 to 37 that name a boundary, each with a test of its own. */
public final class BoundaryPromises20To37Test {
    private static final Due DUE = new Due();
    private static final int MIN = Integer.MIN_VALUE;
    private static final int MAX = Integer.MAX_VALUE;
    private static Doc doc;

    public static void main(String[] args) throws Exception {
        doc = new Doc(DUE);
        promise20Gone();
        promise20Bad();
        promise21FirstElements();
        promise21Refuses();
        promise21Stuck();
        promise22Refuses();
        promise23Refuses();
        promise23NoneIsNotRefused();
        promise24PerhapsOne();
        promise24Bad();
        promise25NoneIsNotRefused();
        promise25Bad();
        promise26TwoMore();
        promise26Refuses();
        promise27TwoMore();
        promise27Refuses();
        promise28TheFirst();
        promise28Refuses();
        promise29Bits();
        promise29AllGone();
        promise29Refuses();
        promise30PerhapsOne();
        promise30Bad();
        promise31Bad();
        promise32Another();
        promise33FewestNotes();
        promise33None();
        promise33Refuses();
        promise34Refuses();
        promise35None();
        promise35Bad();
        promise36None();
        promise36Bad();
        promise37Bad();
        doc.end(20, 37);
    }

    /** SHELF 0 a HEARING with an element 2 that is none, 1 an EAR, 3 a HEARING of 8, 7 a ROW of none. */
    private static SoupOrHorses whole() {
        SoupOrHorses x = Scene.camp("call abc 30 10;call abcdea 99 0;call aaa 1 99;ear 0 0;ear 3 1;man 0 0");
        Scene.put(x, 0, 0, 1, 5, 3);
        Scene.put(x, 3, 9, 9, 9, 9, 9, 9, 9, 9);
        x.row(7, 4, 0);
        x.show(1, 1);
        return x;
    }

    private static void refuses(String what, int want, ToLongFunction<SoupOrHorses> call) {
        Scene.refuses(DUE, what, want, BoundaryPromises20To37Test::whole, call);
    }

    /** As refuses(), but of a new object into which that text, if it is one, has been read. */
    private static void refusesOf(String text, String what, int want, ToLongFunction<SoupOrHorses> call) {
        Scene.refuses(DUE, what + " of '" + text + "'", want,
            () -> text.isEmpty() ? new SoupOrHorses() : Scene.camp(text), call);
    }

    private static void promise20Gone() {
        doc.promise(20, "The i-th NOTE of a CALL as an EAR has it (9: GONE).");
        SoupOrHorses x = whole();
        DUE.same("the first", x.heard(0, 0, 0), 0);
        DUE.same("the first, GONE", x.heard(0, 1, 0), 9);
        DUE.same("the second by LATE", x.heard(0, 1, 1), 1);
        DUE.same("the last", x.heard(0, 0, 2), 2);
        DUE.same("the last, GONE", x.heard(0, 1, 2), 9);
        DUE.same("the last of 6", x.heard(1, 0, 5), 0);
        DUE.same("the last of 6, GONE", x.heard(1, 1, 5), 9);
        DUE.same("the one ahead of it", x.heard(1, 1, 4), 4);
    }

    private static void promise20Bad() {
        doc.promise(20, "BAD.");
        int[][] bad = {{-1, 0, 0}, {3, 0, 0}, {MIN, 0, 0}, {MAX, 0, 0}, {0, -1, 0}, {0, 2, 0}, {0, MIN, 0}, {0, MAX, 0},
            {0, 0, -1}, {0, 0, 3}, {1, 0, 6}, {0, 0, MIN}, {0, 0, MAX}};
        for (int[] v : bad) {
            refuses("heard(" + v[0] + ", " + v[1] + ", " + v[2] + ")", Scene.BAD, x -> x.heard(v[0], v[1], v[2]));
        }
    }

    private static void promise21FirstElements() {
        doc.promise(21, "of the first n elements (0 to 8) of the ROW in SHELF s");
        SoupOrHorses x = whole();
        DUE.same("0, not OVER", x.fits(0, 0, false, 0, 0), 1);
        DUE.same("0, OVER", x.fits(0, 0, true, 0, 0), 0);
        DUE.same("0 of a ROW of none", x.fits(7, 0, false, 0, 0), 1);
        DUE.same("2, ahead of what is no NOTE", x.fits(0, 2, false, 0, 0), 1);
        DUE.same("8", x.fits(3, 8, false, 0, 1), 0);
        DUE.same("6, OVER", x.fits(3, 6, true, 0, 1), 1);
        DUE.same("7, OVER", x.fits(3, 7, true, 0, 1), 0);
        SoupOrHorses y = Scene.camp("call abcdeabc 1 1;ear 0 0");
        y.row(0, 3, 40);
        int[] notes = {0, 1, 2, 3, 4, 0, 1, 2, 7};
        for (int i = 0; i < 9; i++) {
            y.set(0, i, notes[i]);
        }
        DUE.same("8 of 40", y.fits(0, 8, true, 0, 0), 1);
        y.set(0, 7, 3);
        DUE.same("8 of 40, the last another", y.fits(0, 8, true, 0, 0), 0);
        DUE.same("7 of 40", y.fits(0, 7, false, 0, 0), 1);
    }

    /** The refusals of fits(), but for the CALL's, by a call of n elements of a SHELF by an EAR. */
    private interface Told {
        long answer(SoupOrHorses x, int s, int n, int ear);
    }

    private static void told(String name, Told call) {
        int[][] bad = {{-1, 0, 0}, {8, 0, 0}, {MIN, 0, 0}, {MAX, 0, 0}};
        for (int[] v : bad) {
            refuses(name + ", SHELF " + v[0], Scene.BAD, x -> call.answer(x, v[0], v[1], v[2]));
        }
        int[][] others = {{-1, 0}, {9, 0}, {MIN, 0}, {MAX, 0}, {0, -1}, {0, 2}, {0, MIN}, {0, MAX}};
        for (int[] v : others) {
            for (int s = 0; s < 4; s++) {
                int shelf = s;
                refuses(name + ", SHELF " + s + ", n " + v[0] + ", EAR " + v[1], Scene.BAD,
                    x -> call.answer(x, shelf, v[0], v[1]));
            }
        }
        refuses(name + " of an EAR", Scene.OTHER, x -> call.answer(x, 1, 0, 0));
        refuses(name + " of an EAR, n 8", Scene.OTHER, x -> call.answer(x, 1, 8, 1));
        refuses(name + " of NOTHING", Scene.NOTHING, x -> call.answer(x, 2, 0, 0));
        refuses(name + " of NOTHING, n 8", Scene.NOTHING, x -> call.answer(x, 2, 8, 1));
        refuses(name + " of 5 of 4, one no NOTE", Scene.BAD, x -> call.answer(x, 0, 5, 0));
        refuses(name + " of 1 of none", Scene.BAD, x -> call.answer(x, 7, 1, 0));
        refuses(name + ", the last no NOTE", Scene.STUCK, x -> call.answer(x, 0, 3, 0));
        refuses(name + ", one within no NOTE", Scene.STUCK, x -> call.answer(x, 0, 4, 1));
    }

    private static void promise21Refuses() {
        doc.promise(21, "BAD SHELF, n, CALL, EAR; OTHER; NOTHING; BAD: fewer elements; STUCK: an element that is no NOTE, "
            + "nor GONE.");
        told("fits", (x, s, n, ear) -> x.fits(s, n, true, ear, 0));
        told("fits, not OVER", (x, s, n, ear) -> x.fits(s, n, false, ear, 2));
        int[] bad = {-1, 3, MIN, MAX};
        for (int call : bad) {
            for (int s = 0; s < 4; s++) {
                int shelf = s;
                refuses("SHELF " + s + ", CALL " + call, Scene.BAD, x -> x.fits(shelf, 3, true, 0, call));
            }
        }
        refusesOf("ear 0 0", "no CALLS", Scene.BAD, x -> x.fits(0, 0, false, 0, 0));
        refusesOf("call a 1 1", "no EARS", Scene.BAD, x -> x.fits(0, 0, false, 0, 0));
    }

    private static void promise21Stuck() {
        doc.promise(21, "STUCK: an element that is no NOTE, nor GONE.");
        long[] others = {-1, 5, 8, 10, Long.MIN_VALUE, Long.MAX_VALUE, 1L << 32, (1L << 32) + 9, 256, 265};
        for (long other : others) {
            SoupOrHorses x = whole();
            x.row(4, 3, 8);
            x.set(4, 7, other);
            DUE.same("with " + other, x.fits(4, 8, false, 0, 0), Scene.STUCK);
            DUE.same("ahead of " + other, x.fits(4, 7, false, 0, 0), 0);
            DUE.same("with " + other + ": STUCK", x.status(15), 1);
        }
        SoupOrHorses y = whole();
        y.row(4, 0, 1);
        y.set(4, 0, 265);
        DUE.same("a byte keeps 9 of 265", y.fits(4, 1, false, 0, 0), 1);
        y.row(4, 4, 1);
        y.set(4, 0, 9);
        DUE.same("a boolean keeps 1 of 9", y.fits(4, 1, false, 0, 0), 0);
    }

    private static void promise22Refuses() {
        doc.promise(22, "LIKELY of a CALL by it. Refused as fits().");
        told("likely", (x, s, n, ear) -> x.likely(s, n, true, ear, 0));
        told("likely, not OVER", (x, s, n, ear) -> x.likely(s, n, false, ear, 2));
        int[] bad = {-1, 3, MIN, MAX};
        for (int call : bad) {
            for (int s = 0; s < 4; s++) {
                int shelf = s;
                refuses("SHELF " + s + ", CALL " + call, Scene.BAD, x -> x.likely(shelf, 3, true, 0, call));
            }
        }
        SoupOrHorses x = whole();
        DUE.same("behind none", x.likely(7, 0, false, 0, 1), 99000 / 130);
        DUE.same("OVER behind none", x.likely(7, 0, true, 0, 1), 0);
        DUE.same("longer than all", x.likely(3, 8, false, 0, 1), 0);
        DUE.same("alone", x.likely(3, 6, true, 0, 1), 1000);
    }

    private static void promise23Refuses() {
        doc.promise(23, "Refused as fits() (there is no CALL).");
        told("guess", (x, s, n, ear) -> x.guess(s, n, true, ear));
        told("guess, not OVER", (x, s, n, ear) -> x.guess(s, n, false, ear));
        refusesOf("call a 1 1", "no EARS", Scene.BAD, x -> x.guess(0, 0, false, 0));
    }

    private static void promise23NoneIsNotRefused() {
        doc.promise(23, "(NONE isn't refused.)");
        SoupOrHorses x = whole();
        DUE.same("longer than all", x.guess(3, 8, false, 0), -1);
        DUE.same("OVER behind none", x.guess(7, 0, true, 0), -1);
        DUE.same("as long as the longest", x.guess(3, 6, false, 0), 1);
        SoupOrHorses y = Scene.camp("ear 0 0");
        y.row(0, 0, 8);
        DUE.same("no CALLS", y.guess(0, 8, false, 0), -1);
        for (int what = 12; what <= 16; what++) {
            DUE.same("REFUSALS", x.status(what) + y.status(what), 0);
        }
    }

    private static void promise24PerhapsOne() {
        doc.promise(24, "APART of two CALLS (perhaps one).");
        SoupOrHorses x = whole();
        DUE.same("one", x.apart(0, 0), 0);
        DUE.same("one, the last", x.apart(2, 2), 0);
        DUE.same("two", x.apart(0, 1), 3);
        DUE.same("two, the other way", x.apart(1, 0), 3);
    }

    private static void pairs(String name, PairCall call) {
        int[][] bad = {{-1, 0}, {3, 0}, {0, -1}, {0, 3}, {MIN, 0}, {MAX, 0}, {0, MIN}, {0, MAX}, {-1, -1}, {3, 3}};
        for (int[] v : bad) {
            refuses(name + "(" + v[0] + ", " + v[1] + ")", Scene.BAD, x -> call.answer(x, v[0], v[1]));
        }
        refusesOf("", name + "(0, 0)", Scene.BAD, x -> call.answer(x, 0, 0));
    }

    private interface PairCall {
        long answer(SoupOrHorses x, int one, int other);
    }

    private static void promise24Bad() {
        doc.promise(24, "BAD.");
        pairs("apart", SoupOrHorses::apart);
    }

    private static void promise25NoneIsNotRefused() {
        doc.promise(25, "KNOWN BEHIND; NONE. BAD. (NONE isn't refused.)");
        SoupOrHorses x = Scene.camp("call ab 1 1;call ab 1 1;ear 0 0");
        DUE.same("one of two alike", x.known(0, 0), -1);
        DUE.same("the other", x.known(1, 0), -1);
        x.drop();
        DUE.same("alone", x.known(0, 0), 0);
        DUE.same("REFUSALS", x.status(12) + x.status(15), 0);
    }

    private static void promise25Bad() {
        doc.promise(25, "BAD.");
        int[][] bad = {{-1, 0}, {3, 0}, {MIN, 0}, {MAX, 0}, {0, -1}, {0, 2}, {0, MIN}, {0, MAX}};
        for (int[] v : bad) {
            refuses("known(" + v[0] + ", " + v[1] + ")", Scene.BAD, x -> x.known(v[0], v[1]));
        }
    }

    private static void promise26TwoMore() {
        doc.promise(26, "fewest NOTES (NONE: 2 more than it has), of several the first.");
        // By TORN ab is NONE (4), by EAR it takes its being OVER (3), by SPLIT too.
        SoupOrHorses x = Scene.camp("call ab 1 1;call abc 1 1;call eb 1 1;ear 1 1;ear 0 0;ear 2 0");
        DUE.same("by TORN", x.known(0, 0), -1);
        DUE.same("by EAR", x.known(0, 1), 3);
        DUE.same("by SPLIT", x.known(0, 2), 3);
        DUE.same("the first of two that are fewer than NONE", x.earFor(0), 1);
        DUE.same("NONE by each", Scene.camp("call a 1 1;call a 1 1;ear 0 0;ear 1 1").earFor(1), 0);
        DUE.same("the first of all alike", Scene.camp("call a 1 1;ear 0 0;ear 1 1").earFor(0), 0);
        DUE.same("ahead of one by which it is more", Scene.camp("call a 1 1;call b 1 1;ear 0 0;ear 1 1").earFor(0), 0);
        DUE.same("the only EAR", Scene.camp("call a 1 1;ear 1 1").earFor(0), 0);
        DUE.same("the last of six", Scene.camp("call ab 1 1;call bb 1 1;ear 1 1;ear 1 1;ear 1 1;ear 1 1;ear 1 1;ear 0 0")
            .earFor(0), 5);
    }

    private static void promise26Refuses() {
        doc.promise(26, "BAD; STUCK: no EARS.");
        int[] bad = {-1, 3, MIN, MAX};
        for (int call : bad) {
            refuses("earFor(" + call + ")", Scene.BAD, x -> x.earFor(call));
        }
        refusesOf("call a 1 1", "no EARS", Scene.STUCK, x -> x.earFor(0));
        refusesOf("call a 1 1", "no EARS, CALL 1", Scene.BAD, x -> x.earFor(1));
        refusesOf("", "no CALLS, no EARS", Scene.BAD, x -> x.earFor(0));
    }

    private static void promise27TwoMore() {
        doc.promise(27, "(NONE: 2 more than it has), by all USES (cut).");
        DUE.same("alone", Scene.camp("call abcdeabc 99 1;ear 0 0").mean(0), 0);
        DUE.same("1, 2 and 2 by 3", Scene.camp("call a 1 1;call bb 1 1;call bc 1 1;ear 0 0").mean(0), 1666);
        DUE.same("2 and 2 by being OVER", Scene.camp("call a 7 1;call ab 1 1;ear 0 0").mean(0), 2000);
        DUE.same("NONE of 1", Scene.camp("call a 1 1;call a 1 1;ear 0 0").mean(0), 3000);
        SoupOrHorses x = Scene.camp("call abcdeabc 99 1;call abcdeabc 99 1;call abcdeabc 99 1;ear 0 0");
        Scene.put(x, 0, 0, 1, 2, 3, 4, 0, 1, 2);
        for (int i = 3; i < 12; i++) {
            x.call(0, 8, 99, 99);
        }
        DUE.same("12 of 8, NONE of each", x.mean(0), 10000);
    }

    private static void promise27Refuses() {
        doc.promise(27, "BAD; STUCK: no CALLS.");
        int[] bad = {-1, 2, MIN, MAX};
        for (int ear : bad) {
            refuses("mean(" + ear + ")", Scene.BAD, x -> x.mean(ear));
        }
        refusesOf("ear 0 0", "no CALLS", Scene.STUCK, x -> x.mean(0));
        refusesOf("ear 0 0", "no CALLS, EAR 1", Scene.BAD, x -> x.mean(1));
        refusesOf("", "no CALLS, no EARS", Scene.BAD, x -> x.mean(0));
    }

    private static void promise28TheFirst() {
        doc.promise(28, "The CALL of the greatest RISK by an EAR, of several the first.");
        DUE.same("one alone", Scene.camp("call a 1 1;ear 0 0").worst(0), 0);
        DUE.same("no RISK at all", Scene.camp("call a 1 1;call b 1 1;ear 0 0").worst(0), 0);
        DUE.same("two alike", Scene.camp("call b 9 9;call a 4 4;call a 4 4;ear 0 0").worst(0), 1);
        DUE.same("the other's COST", Scene.camp("call b 9 9;call a 4 4;call a 4 9;ear 0 0").worst(0), 1);
        DUE.same("the last", Scene.camp("call b 9 9;call a 4 9;call a 4 4;ear 0 0").worst(0), 2);
        DUE.same("alike when cut", Scene.camp("call a 4 5;call a 4 4;ear 0 0").worst(0), 0);
    }

    private static void promise28Refuses() {
        doc.promise(28, "BAD; STUCK: no CALLS.");
        int[] bad = {-1, 2, MIN, MAX};
        for (int ear : bad) {
            refuses("worst(" + ear + ")", Scene.BAD, x -> x.worst(ear));
        }
        refusesOf("ear 0 0", "no CALLS", Scene.STUCK, x -> x.worst(0));
        refusesOf("ear 0 0", "no CALLS, EAR 1", Scene.BAD, x -> x.worst(1));
        refusesOf("", "no CALLS, no EARS", Scene.BAD, x -> x.worst(0));
    }

    private static void promise29Bits() {
        doc.promise(29, "bits 0 to 4 a NOTE, 5 one that is GONE, 6 the end.");
        SoupOrHorses x = Scene.camp("call a 1 1;call aa 1 1;call ab 1 1;call ac 1 1;call ad 1 1;call ae 1 1;"
            + "ear 0 0;ear 4 0;ear 2 0;ear 3 0;ear 1 0");
        Scene.put(x, 0, 0);
        DUE.same("behind none", x.next(0, 0, 0), 1);
        DUE.same("behind none by FAR", x.next(0, 0, 1), 32);
        DUE.same("each NOTE and the end", x.next(0, 1, 0), 31 + 64);
        DUE.same("by FAR", x.next(0, 1, 1), 2 + 4 + 8 + 32 + 64);
        DUE.same("by SPLIT", x.next(0, 1, 2), 1 + 2 + 4 + 8 + 64);
        DUE.same("by LATE", x.next(0, 1, 3), 32 + 64);
        DUE.same("by TORN of none", x.next(0, 1, 4), 31 + 64);
        Scene.put(x, 0, 0, 4);
        DUE.same("the end alone", x.next(0, 2, 0), 64);
        Scene.put(x, 0, 1);
        DUE.same("nothing FITS", x.next(0, 1, 0), 0);
    }

    private static void promise29AllGone() {
        doc.promise(29, "of the first n elements (0 to 8) of the ROW in SHELF s");
        SoupOrHorses x = Scene.camp("call abcdeabc 1 1;call b 1 1;ear 0 0");
        Scene.put(x, 0, 9, 9, 9, 9, 9, 9, 9, 9);
        int[] bits = {3, 66, 4, 8, 16, 1, 2, 4, 64};
        for (int n = 0; n <= 8; n++) {
            DUE.same("behind " + n, x.next(0, n, 0), bits[n]);
        }
        SoupOrHorses y = Scene.camp("ear 0 0");
        y.row(0, 0, 8);
        DUE.same("no CALLS", y.next(0, 0, 0) + y.next(0, 8, 0), 0);
    }

    private static void promise29Refuses() {
        doc.promise(29, "Refused as guess().");
        told("next", SoupOrHorses::next);
        refusesOf("call a 1 1", "no EARS", Scene.BAD, x -> x.next(0, 0, 0));
    }

    private static void promise30PerhapsOne() {
        doc.promise(30, "How many of their first NOTES two CALLS (perhaps one) have alike.");
        SoupOrHorses x = Scene.camp("call abcdeabc 1 1;call abcdeabc 1 1;call abcdeabd 1 1;call b 1 1;call a 1 1");
        DUE.same("one of 8", x.alikeFirst(0, 0), 8);
        DUE.same("two of 8", x.alikeFirst(0, 1), 8);
        DUE.same("but the last", x.alikeFirst(0, 2), 7);
        DUE.same("not the first", x.alikeFirst(0, 3), 0);
        DUE.same("all of the shorter", x.alikeFirst(4, 0), 1);
        DUE.same("all of the shorter, the other way", x.alikeFirst(0, 4), 1);
    }

    private static void promise30Bad() {
        doc.promise(30, "BAD.");
        pairs("alikeFirst", SoupOrHorses::alikeFirst);
    }

    private static void promise31Bad() {
        doc.promise(31, "are a NOTE (0 to 4). BAD.");
        int[] bad = {-1, 5, 9, MIN, MAX};
        for (int note : bad) {
            refuses("notes(" + note + ")", Scene.BAD, x -> x.notes(note));
        }
        SoupOrHorses x = Scene.camp("call eeeeeeee 1 1;call eeeeeeea 1 1");
        DUE.same("the highest", x.notes(4), 15);
        DUE.same("the lowest", x.notes(0), 1);
        DUE.same("none is one", x.notes(2), 0);
        DUE.same("no CALLS", new SoupOrHorses().notes(0) + new SoupOrHorses().notes(4), 0);
    }

    private static void promise32Another() {
        doc.promise(32, "How many CALLS have the same NOTES as another one.");
        DUE.same("no CALLS", new SoupOrHorses().twins(), 0);
        DUE.same("one", Scene.camp("call a 1 1").twins(), 0);
        DUE.same("two alike", Scene.camp("call a 1 1;call a 2 2").twins(), 2);
        DUE.same("two that begin alike", Scene.camp("call a 1 1;call aa 1 1").twins(), 0);
        DUE.same("three alike", Scene.camp("call ab 1 1;call c 1 1;call ab 1 1;call ab 1 1").twins(), 3);
        DUE.same("twelve alike", Scene.camp("call a 1 1" + ";call a 1 1".repeat(11)).twins(), 12);
    }

    private static void change(String text, int d, int want) {
        SoupOrHorses x = Scene.camp(text);
        DUE.same("d " + d + " of '" + text + "'", x.change(0, d), want);
        DUE.same("REFUSALS", x.status(12) + x.status(15), 0);
    }

    private static void promise33FewestNotes() {
        doc.promise(33, "The fewest NOTES of a CALL that must become others (it stays as long)");
        change("call abcde 1 1", 0, 0);
        change("call abcde 1 1", 8, 0);
        change("call aaaaa 1 1;call aaaaa 1 1", 0, 0);
        change("call aaaaa 1 1;call aaaaa 1 1", 1, 1);
        change("call aaaaa 1 1;call aaaaa 1 1", 5, 5);
        change("call aaaaa 1 1;call aaaaab 1 1", 1, 0);
        change("call aaaaa 1 1;call aaaaab 1 1", 2, 1);
        change("call aaaaa 1 1;call bbbbb 1 1", 5, 0);
        change("call aaaab 1 1;call bbbbb 1 1", 5, 1);
        change("call a 1 1;call aaaaaaaa 1 1", 7, 0);
        change("call a 1 1;call aaaaaaaa 1 1", 8, 1);
    }

    private static void promise33None() {
        doc.promise(33, "so that it is d APART (0 to 8) at least from all others; NONE.");
        change("call aaaaa 1 1;call aaaaa 1 1", 6, -1);
        change("call aaaaa 1 1;call aaaaa 1 1", 8, -1);
        change("call a 1 1;call a 1 1;call b 1 1;call c 1 1;call d 1 1", 1, 1);
        change("call a 1 1;call a 1 1;call b 1 1;call c 1 1;call d 1 1;call e 1 1", 1, -1);
        change("call a 1 1;call b 1 1", 2, -1);
        change("call a 1 1;call bc 1 1", 2, 0);
        change("call a 1 1;call ac 1 1", 2, 1);
        change("call a 1 1;call bc 1 1", 3, -1);
    }

    private static void promise33Refuses() {
        doc.promise(33, "BAD; STUCK: it has more than 5. (NONE isn't refused.)");
        int[][] bad = {{-1, 0}, {3, 0}, {MIN, 0}, {MAX, 0}, {0, -1}, {0, 9}, {0, MIN}, {0, MAX}, {1, -1}, {1, 9}};
        for (int[] v : bad) {
            refuses("change(" + v[0] + ", " + v[1] + ")", Scene.BAD, x -> x.change(v[0], v[1]));
        }
        refuses("of 6", Scene.STUCK, x -> x.change(1, 0));
        refuses("of 6, d 8", Scene.STUCK, x -> x.change(1, 8));
        refusesOf("call abcdeabc 1 1", "of 8", Scene.STUCK, x -> x.change(0, 0));
        DUE.same("of 5", Scene.camp("call abcde 1 1").change(0, 8), 0);
    }

    private static void promise34Refuses() {
        doc.promise(34, "BAD; STUCK: fewer than two CALLS.");
        int[] bad = {-1, 2, MIN, MAX};
        for (int what : bad) {
            refuses("alike(" + what + ")", Scene.BAD, x -> x.alike(what));
            refusesOf("", "alike(" + what + ")", Scene.BAD, x -> x.alike(what));
        }
        refusesOf("", "alike(0)", Scene.STUCK, x -> x.alike(0));
        refusesOf("call a 1 1", "alike(0)", Scene.STUCK, x -> x.alike(0));
        refusesOf("call a 1 1", "alike(1)", Scene.STUCK, x -> x.alike(1));
        SoupOrHorses x = Scene.camp("call a 1 1;call b 1 1");
        DUE.same("just two", x.alike(0) * 10 + x.alike(1), 11);
        SoupOrHorses y = Scene.camp("call aa 1 1;call bb 1 1;call cc 1 1;call dd 1 1;call ee 1 1;call ab 1 1;call ba 1 1;"
            + "call cd 1 1;call dc 1 1;call ac 1 1;call abcda 1 1;call abcde 1 1");
        DUE.same("of 12", y.alike(0), 5);
        SoupOrHorses z = Scene.camp("call aaaa 1 1;call bbbb 1 1;call cccc 1 1;call dddd 1 1;call eeee 1 1;call abcd 1 1;"
            + "call bcde 1 1;call cdea 1 1;call deab 1 1;call eabc 1 1;call edcbaedc 1 1;call edcbaedb 1 1");
        DUE.same("the last two of 12", z.alike(0), 1011);
        DUE.same("the last two of 12: how far", z.alike(1), 1);
    }

    private static void promise35None() {
        doc.promise(35, "NONE: none. BAD. (NONE isn't refused.)");
        SoupOrHorses x = Scene.camp("ear 0 0;ear 1 9");
        DUE.same("no CALLS", x.mixed(0, 0), 0);
        DUE.same("no CALLS: the first", x.mixed(0, 1), -1);
        Scene.read(x, "call a 1 1");
        DUE.same("one CALL", x.mixed(1, 0), 0);
        DUE.same("one CALL: the first", x.mixed(1, 1), -1);
        Scene.read(x, "call b 1 1");
        DUE.same("two, not mixed", x.mixed(0, 1), -1);
        DUE.same("two, mixed", x.mixed(1, 0), 1);
        DUE.same("two, mixed: the first", x.mixed(1, 1), 1);
        for (int i = 2; i < 12; i++) {
            Scene.read(x, "call c 1 1");
        }
        DUE.same("all of 12", x.mixed(1, 0), 66);
        DUE.same("those of 12 that are alike", x.mixed(0, 0), 45);
        DUE.same("those of 12 that are alike: the first", x.mixed(0, 1), 203);
        DUE.same("REFUSALS", x.status(12) + x.status(15), 0);
    }

    private static void promise35Bad() {
        doc.promise(35, "BAD.");
        int[][] bad = {{-1, 0}, {2, 0}, {MIN, 0}, {MAX, 0}, {0, -1}, {0, 2}, {0, MIN}, {0, MAX}};
        for (int[] v : bad) {
            refuses("mixed(" + v[0] + ", " + v[1] + ")", Scene.BAD, x -> x.mixed(v[0], v[1]));
        }
        refusesOf("call a 1 1", "no EARS", Scene.BAD, x -> x.mixed(0, 0));
    }

    private static void promise36None() {
        doc.promise(36, "NEW; NONE. BAD. (NONE isn't refused.)");
        SoupOrHorses x = Scene.camp("call aaaaa 1 1");
        DUE.same("the least", x.fresh(1, 0), 0);
        DUE.same("4 places of one alone", x.fresh(1, 4), 0);
        DUE.same("those and one", x.fresh(1, 5), 1);
        DUE.same("more than there are", x.fresh(1, 6), -1);
        DUE.same("all 5 others", x.fresh(5, 5), 781);
        DUE.same("more than 5", x.fresh(5, 6), -1);
        DUE.same("8", x.fresh(5, 8), -1);
        DUE.same("REFUSALS", x.status(12) + x.status(15), 0);
    }

    private static void promise36Bad() {
        doc.promise(36, "BAD.");
        int[][] bad = {{0, 0}, {6, 0}, {-1, 0}, {MIN, 0}, {MAX, 0}, {1, -1}, {1, 9}, {5, 9}, {1, MIN}, {1, MAX}};
        for (int[] v : bad) {
            refuses("fresh(" + v[0] + ", " + v[1] + ")", Scene.BAD, x -> x.fresh(v[0], v[1]));
        }
    }

    private static void promise37Bad() {
        doc.promise(37, "KEEP by d (0 to 8): the set (bits). BAD.");
        int[] bad = {-1, 9, MIN, MAX};
        for (int d : bad) {
            refuses("keep(" + d + ")", Scene.BAD, x -> x.keep(d));
        }
        SoupOrHorses x = whole();
        DUE.same("all are 0 APART", x.keep(0), 7);
        DUE.same("none are 8 APART", x.keep(8), 2);
        DUE.same("no CALLS", new SoupOrHorses().keep(0), 0);
        SoupOrHorses y = Scene.camp("call a 99 1" + ";call a 99 1".repeat(11));
        DUE.same("all of 12", y.keep(0), 4095);
        DUE.same("one of 12", y.keep(1), 1);
    }
}
