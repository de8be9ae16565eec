import java.util.List;
import java.util.function.ToLongFunction;

/** The sentences of promises 38 to 54 that name a boundary, each with a test of its own. */
public final class BoundaryPromises38To54Test {
    private static final Due DUE = new Due();
    private static final int MIN = Integer.MIN_VALUE;
    private static final int MAX = Integer.MAX_VALUE;
    private static Doc doc;

    /** By EAR 1 the CALLS a and b are one; the LIKELY of b, that is then the GUESS, is 750. */
    private static final String TWO = "call a 25 1;call b 75 1;ear 0 0;ear 1 1";

    public static void main(String[] args) throws Exception {
        doc = new Doc(DUE);
        promise38Bad();
        promise38EachIsHeard();
        promise39Bad();
        promise40None();
        promise40Bad();
        promise41OwnGuess();
        promise41Bad();
        promise42Steps();
        promise42None();
        promise42Bad();
        promise43Bad();
        promise44Bad();
        promise45FirstElements();
        promise45Refuses();
        promise46FirstElements();
        promise46Refuses();
        promise47Steps();
        promise47Refuses();
        promise48HowMany();
        promise48Row();
        promise48Bad();
        promise49Refuses();
        promise49IntoNoShelf();
        promise50HowManyAreLeft();
        promise50Stuck();
        promise51AnyInt();
        promise52Kept();
        promise52ButThese();
        promise53SameNumbers();
        promise53Stuck();
        promise54None();
        promise54Counts();
        doc.end(38, 54);
    }

    /** SHELF 0 a ROW with an element 2 that is neither NOTE nor GONE, 1 an EAR, 7 a ROW of none. */
    private static SoupOrHorses whole() {
        SoupOrHorses x = Scene.camp("call abc 30 10;call abd 70 0;ear 0 0;ear 3 0;man 0 0;man 1 1;sure 700;lost 30");
        Scene.put(x, 0, 0, 1, 5, 3);
        x.row(7, 4, 0);
        x.show(1, 1);
        x.seed(99);
        x.image();
        return x;
    }

    private static SoupOrHorses without() {
        SoupOrHorses x = whole();
        x.drop();
        x.drop();
        return x;
    }

    private static void refuses(String what, int want, ToLongFunction<SoupOrHorses> call) {
        Scene.refuses(DUE, what, want, BoundaryPromises38To54Test::whole, call);
    }

    private static void refusesWithout(String what, int want, ToLongFunction<SoupOrHorses> call) {
        Scene.refuses(DUE, "no CALLS, " + what, want, BoundaryPromises38To54Test::without, call);
    }

    private interface One {
        long answer(SoupOrHorses x, int number);
    }

    /** BAD for all numbers but those of the CALLS, of which there are two, or none. */
    private static void calls(String name, One call) {
        int[] bad = {-1, 2, MIN, MAX};
        for (int number : bad) {
            refuses(name + "(" + number + ")", Scene.BAD, x -> call.answer(x, number));
        }
        refusesWithout(name + "(0)", Scene.BAD, x -> call.answer(x, 0));
        Scene.refuses(DUE, "a new object, " + name + "(0)", Scene.BAD, SoupOrHorses::new, x -> call.answer(x, 0));
    }

    private static void promise38Bad() {
        doc.promise(38, "DOES of a man, a CALL being sounded; NONE: nothing. BAD. (NONE isn't refused.)");
        int[] bad = {-1, 2, MIN, MAX};
        for (int number : bad) {
            refuses("does(" + number + ", 0)", Scene.BAD, x -> x.does(number, 0));
            refuses("does(0, " + number + ")", Scene.BAD, x -> x.does(0, number));
        }
        refusesWithout("does(0, 0)", Scene.BAD, x -> x.does(0, 0));
        Scene.refuses(DUE, "no MEN, does(0, 0)", Scene.BAD, () -> Scene.camp(TWO), x -> x.does(0, 0));
    }

    private static void promise38EachIsHeard() {
        doc.promise(38, "DOES of a man, a CALL being sounded");
        SoupOrHorses x = Scene.camp(TWO + ";man 0 0;man 1 0;man 1 1" + ";man 0 1".repeat(5));
        int[] want = {0, 1, 1, 0, 0, 0, 0, 0};
        for (int man = 0; man < 8; man++) {
            DUE.same("man " + man, x.does(0, man), want[man]);
            DUE.same("man " + man + ", the other CALL", x.does(1, man), 1);
        }
        DUE.same("a 9th", x.does(0, 8), Scene.BAD);
        // A man for whom all is GONE still does something: the CALL itself FITS.
        SoupOrHorses y = Scene.camp("call a 1 1;ear 1 9;man 0 1");
        DUE.same("all GONE", y.does(0, 0), 0);
    }

    private static void promise39Bad() {
        doc.promise(39, "RIGHT. BAD.");
        calls("right", SoupOrHorses::right);
        DUE.same("no MEN", Scene.camp("call a 1 1").right(0), 0);
        SoupOrHorses x = Scene.camp(TWO + ";man 0 0".repeat(8));
        DUE.same("all 8", x.right(0), 8);
        DUE.same("none of 8", Scene.camp(TWO + ";man 1 0".repeat(8)).right(0), 0);
        DUE.same("all 8 of them", Scene.camp(TWO + ";man 1 0".repeat(8)).right(1), 8);
    }

    private static void promise40None() {
        doc.promise(40, "LEADS; NONE: nobody does another CALL. BAD. (NONE isn't refused.)");
        SoupOrHorses x = Scene.camp(TWO + ";man 0 0".repeat(7) + ";man 1 0");
        DUE.same("the last of 8", x.leads(0), 7);
        DUE.same("nobody of 8", x.leads(1), -1);
        DUE.same("the first of 8", Scene.camp(TWO + ";man 1 0".repeat(8)).leads(0), 0);
        SoupOrHorses y = Scene.camp(TWO);
        DUE.same("no MEN", y.leads(0), -1);
        DUE.same("REFUSALS", x.status(12) + x.status(15) + y.status(12) + y.status(15), 0);
    }

    private static void promise40Bad() {
        doc.promise(40, "BAD.");
        calls("leads", SoupOrHorses::leads);
    }

    private static void promise41OwnGuess() {
        doc.promise(41, "MEN (bits) who do another CALL than their own GUESS, a CALL being sounded.");
        DUE.same("no MEN", Scene.camp(TWO).follows(0), 0);
        DUE.same("the first has none ahead", Scene.camp(TWO + ";sure 1000;man 1 1").follows(0), 0);
        DUE.same("all but the first of 8", Scene.camp(TWO + ";sure 1000;man 0 0" + ";man 1 1".repeat(7)).follows(0), 254);
        DUE.same("the last of 8", Scene.camp(TWO + ";sure 1000" + ";man 0 0".repeat(7) + ";man 1 1").follows(0), 128);
        DUE.same("those who LOOK", Scene.camp(TWO + ";sure 1000;man 0 0;man 1 0;man 1 1;man 0 1").follows(0), 4);
        DUE.same("they do as their GUESS", Scene.camp(TWO + ";sure 1000;man 1 0;man 1 1").follows(0), 0);
        DUE.same("SURE enough", Scene.camp(TWO + ";sure 750;man 0 0;man 1 1").follows(0), 0);
        DUE.same("not SURE enough", Scene.camp(TWO + ";sure 751;man 0 0;man 1 1").follows(0), 2);
    }

    private static void promise41Bad() {
        doc.promise(41, "BAD.");
        calls("follows", SoupOrHorses::follows);
    }

    private static void promise42Steps() {
        doc.promise(42, "The least SURE (0, 10, 20 and so on to 1000) with which all MEN do the CALL that is sounded");
        DUE.same("no MEN", Scene.camp(TWO).sureFor(0), 0);
        DUE.same("0", Scene.camp(TWO + ";man 0 0").sureFor(0), 0);
        DUE.same("750 is SURE still", Scene.camp(TWO + ";man 0 0;man 1 1").sureFor(0), 760);
        String less = "call a 1 1;call b 99 1;ear 0 0;ear 1 1;man 0 0;man 1 1";
        DUE.same("990 is SURE still", Scene.camp(less).sureFor(0), 1000);
        DUE.same("991 would do", Scene.camp(less + ";sure 991").does(0, 1), 0);
        String more = "call a 1 1;call b 1 1;call a 1 1;ear 1 1;ear 0 0;man 1 0;man 0 1";
        DUE.same("333 is SURE till 340", Scene.camp(more.replace("a 1 1;call b", "b 1 1;call a")).sureFor(1), 340);
    }

    private static void promise42None() {
        doc.promise(42, "NONE. BAD. (NONE isn't refused.)");
        SoupOrHorses x = Scene.camp(TWO + ";man 1 0;sure 300");
        DUE.same("he doesn't LOOK", x.sureFor(0), -1);
        DUE.same("the first to LOOK", Scene.camp(TWO + ";man 1 1;man 0 0").sureFor(0), -1);
        // A GUESS that alone FITS has a LIKELY of 1000, and SURE is never more.
        DUE.same("LIKELY is 1000", Scene.camp("call a 1 1;call b 1 1;ear 0 0;man 0 1").sureFor(1), 0);
        DUE.same("the same NOTES", Scene.camp("call a 2 1;call a 1 1;ear 0 0;man 0 1").sureFor(1), -1);
        DUE.same("SURE stays", x.status(5), 300);
        DUE.same("REFUSALS", x.status(12) + x.status(15), 0);
    }

    private static void promise42Bad() {
        doc.promise(42, "BAD.");
        calls("sureFor", SoupOrHorses::sureFor);
    }

    private static void promise43Bad() {
        doc.promise(43, "RISK. BAD.");
        int[] bad = {-1, 2, MIN, MAX};
        for (int number : bad) {
            refuses("risk(" + number + ", 0)", Scene.BAD, x -> x.risk(number, 0));
            refuses("risk(0, " + number + ")", Scene.BAD, x -> x.risk(0, number));
        }
        refusesWithout("risk(0, 0)", Scene.BAD, x -> x.risk(0, 0));
        SoupOrHorses x = Scene.camp("call a 99 99" + ";call a 99 99".repeat(11));
        x.ear(0, 0);
        DUE.same("the most of all", x.risk(0, 0), 11 * 99 / 12);
        DUE.same("alone", Scene.camp("call a 99 99;ear 0 0").risk(0, 0), 0);
    }

    private static void promise44Bad() {
        doc.promise(44, "LEARN: the i-th. BAD.");
        calls("learn", SoupOrHorses::learn);
        SoupOrHorses x = Scene.camp("call a 1 1" + ";call a 1 1".repeat(11));
        for (int i = 0; i < 12; i++) {
            DUE.same("all alike, i " + i, x.learn(i), i);
        }
        DUE.same("behind 12", x.learn(12), Scene.BAD);
        DUE.same("one alone", Scene.camp("call a 1 0").learn(0), 0);
    }

    private static void promise45FirstElements() {
        doc.promise(45, "NEAREST to the first n elements (0 to 8) of the ROW in SHELF s: the CALL (what 0), by how many (1).");
        SoupOrHorses x = whole();
        DUE.same("of none", x.nearest(7, 0, 0) * 10 + x.nearest(7, 0, 1), 3);
        DUE.same("ahead of what is no NOTE", x.nearest(0, 2, 0) * 10 + x.nearest(0, 2, 1), 1);
        x.row(4, 3, 40);
        x.set(4, 1, 1);
        x.set(4, 2, 3);
        x.set(4, 8, 7);
        DUE.same("3 of 40", x.nearest(4, 3, 0) * 10 + x.nearest(4, 3, 1), 10);
        DUE.same("8 of 40", x.nearest(4, 8, 0) * 10 + x.nearest(4, 8, 1), 15);
    }

    private static void promise45Refuses() {
        doc.promise(45, "BAD SHELF, n, what; OTHER; NOTHING; BAD: fewer elements; STUCK: an element that is no NOTE, nor GONE; "
            + "no CALLS.");
        int[][] bad = {{-1, 0, 0}, {8, 0, 0}, {MIN, 0, 0}, {MAX, 0, 0}, {0, -1, 0}, {1, 9, 0}, {2, 9, 0}, {0, MIN, 0},
            {0, MAX, 0}, {0, 3, -1}, {1, 0, 2}, {2, 0, 2}, {0, 0, MIN}, {0, 0, MAX}};
        for (int[] v : bad) {
            refuses("nearest(" + v[0] + ", " + v[1] + ", " + v[2] + ")", Scene.BAD, x -> x.nearest(v[0], v[1], v[2]));
            refusesWithout("nearest(" + v[0] + ", " + v[1] + ", " + v[2] + ")", Scene.BAD,
                x -> x.nearest(v[0], v[1], v[2]));
        }
        nearestRefuses("an EAR", Scene.OTHER, 1, 8);
        nearestRefuses("NOTHING", Scene.NOTHING, 2, 8);
        nearestRefuses("5 of 4, one no NOTE", Scene.BAD, 0, 5);
        nearestRefuses("1 of none", Scene.BAD, 7, 1);
        nearestRefuses("one no NOTE", Scene.STUCK, 0, 3);
        nearestRefuses("one within no NOTE", Scene.STUCK, 0, 4);
        refusesWithout("all NOTES", Scene.STUCK, x -> x.nearest(0, 2, 0));
        refusesWithout("none", Scene.STUCK, x -> x.nearest(7, 0, 1));
        long[] others = {-1, 5, 8, 10, 1L << 32, (1L << 32) + 9, Long.MIN_VALUE};
        for (long other : others) {
            SoupOrHorses x = whole();
            x.row(3, 3, 1);
            x.set(3, 0, other);
            DUE.same("with " + other, x.nearest(3, 1, 0), Scene.STUCK);
        }
    }

    private static void nearestRefuses(String what, int want, int s, int n) {
        refuses(what, want, x -> x.nearest(s, n, 0));
        refusesWithout(what, want, x -> x.nearest(s, n, 1));
    }

    private static void promise46FirstElements() {
        doc.promise(46, "JUDGE of the first n elements (0 to 40) of the ROW in SHELF s; NONE.");
        SoupOrHorses x = whole();
        DUE.same("of none", x.judge(7, 0), -1);
        DUE.same("none of 4", x.judge(0, 0), -1);
        DUE.same("2 of 4", x.judge(0, 2), -1);
        DUE.same("3 of 4", x.judge(0, 3), 2);
        DUE.same("all 4", x.judge(0, 4), 2);
        x.row(3, 0, 40);
        DUE.same("40", x.judge(3, 40), -1);
        x.set(3, 39, -128);
        DUE.same("40, the last is none", x.judge(3, 40), 39);
        x.set(3, 39, 265);
        DUE.same("40, a byte keeps 9 of 265", x.judge(3, 40), -1);
        DUE.same("REFUSALS", x.status(12) + x.status(15), 0);
    }

    private static void promise46Refuses() {
        doc.promise(46, "BAD SHELF, n; OTHER; NOTHING; BAD: fewer elements.");
        int[][] bad = {{-1, 0}, {8, 0}, {MIN, 0}, {MAX, 0}, {0, -1}, {1, -1}, {2, -1}, {0, 41}, {1, 41}, {2, 41}, {0, MIN},
            {0, MAX}};
        for (int[] v : bad) {
            refuses("judge(" + v[0] + ", " + v[1] + ")", Scene.BAD, x -> x.judge(v[0], v[1]));
        }
        refuses("an EAR", Scene.OTHER, x -> x.judge(1, 40));
        refuses("an EAR, n 0", Scene.OTHER, x -> x.judge(1, 0));
        refuses("NOTHING", Scene.NOTHING, x -> x.judge(2, 40));
        refuses("NOTHING, n 0", Scene.NOTHING, x -> x.judge(2, 0));
        refuses("5 of 4", Scene.BAD, x -> x.judge(0, 5));
        refuses("1 of none", Scene.BAD, x -> x.judge(7, 1));
        refuses("40 of 4", Scene.BAD, x -> x.judge(0, 40));
    }

    private static void promise47Steps() {
        doc.promise(47, "WHEN for the first n elements (0 to 8) of the ROW in SHELF s, by an EAR; NONE.");
        SoupOrHorses x = whole();
        DUE.same("700 behind none", x.when(7, 0, 0), 0);
        DUE.same("700 behind none of 4", x.when(0, 2, 0), 0);
        x.ask(0, 701);
        DUE.same("not behind 2", x.when(0, 2, 0), -1);
        DUE.same("not behind none", x.when(7, 0, 0), -1);
        x.row(3, 3, 40);
        x.set(3, 1, 1);
        x.set(3, 2, 3);
        DUE.same("behind 3 of 40", x.when(3, 3, 0), 3);
        DUE.same("behind 3 of 8", x.when(3, 8, 0), 3);
        DUE.same("not behind 3 by LATE", x.when(3, 3, 1), -1);
        SoupOrHorses y = Scene.camp("call abcdeabc 1 1;call abcdeabd 1 1;ear 0 0;sure 1000");
        Scene.put(y, 0, 0, 1, 2, 3, 4, 0, 1, 2);
        DUE.same("behind 8", y.when(0, 8, 0), 8);
        DUE.same("not behind 7", y.when(0, 7, 0), -1);
        DUE.same("REFUSALS", x.status(12) + x.status(15) + y.status(12) + y.status(15), 0);
    }

    private static void promise47Refuses() {
        doc.promise(47, "Refused as guess(). (NONE isn't refused.)");
        int[][] bad = {{-1, 0, 0}, {8, 0, 0}, {MIN, 0, 0}, {MAX, 0, 0}, {0, -1, 0}, {0, 9, 0}, {1, 9, 0}, {2, 9, 0},
            {0, MIN, 0}, {0, MAX, 0}, {0, 3, -1}, {0, 3, 2}, {1, 0, 2}, {2, 0, 2}, {0, 0, MIN}, {0, 0, MAX}};
        for (int[] v : bad) {
            refuses("when(" + v[0] + ", " + v[1] + ", " + v[2] + ")", Scene.BAD, x -> x.when(v[0], v[1], v[2]));
        }
        refuses("an EAR", Scene.OTHER, x -> x.when(1, 8, 0));
        refuses("NOTHING", Scene.NOTHING, x -> x.when(2, 8, 0));
        refuses("5 of 4, one no NOTE", Scene.BAD, x -> x.when(0, 5, 0));
        refuses("1 of none", Scene.BAD, x -> x.when(7, 1, 0));
        // Behind none of them it would be SURE already.
        refuses("one no NOTE", Scene.STUCK, x -> x.when(0, 3, 0));
        refusesWithout("one no NOTE", Scene.STUCK, x -> x.when(0, 4, 0));
        DUE.same("no CALLS", without().when(0, 2, 0), -1);
    }

    private static void promise48HowMany() {
        doc.promise(48, "SOUNDED in truth into a SHELF: how many NOTES are GONE.");
        SoupOrHorses x = Scene.camp("call abcdeabc 1 1;call e 1 1");
        x.ask(1, 100);
        DUE.same("all 8", x.sound(0, 0), 8);
        DUE.same("the only one", x.sound(1, 0), 1);
        x.ask(1, 0);
        DUE.same("none of 8", x.sound(0, 7), 0);
        DUE.same("none of one", x.sound(1, 7), 0);
        // The draws below 100 from SEED 1 are 38, 26, 13, 83, 19.
        int[] gone = {0, 0, 1, 1, 2, 2, 3, 3, 4, 4, 5};
        int[] losts = {0, 13, 14, 19, 20, 26, 27, 38, 39, 83, 84};
        SoupOrHorses y = Scene.camp("call abcde 1 1");
        for (int i = 0; i < losts.length; i++) {
            y.ask(1, losts[i]);
            y.seed(1);
            DUE.same("LOST " + losts[i], y.sound(0, 0), gone[i]);
        }
    }

    private static void promise48Row() {
        doc.promise(48, "into a SHELF");
        SoupOrHorses x = Scene.camp("call abcdeabc 1 1;call e 1 1;ear 0 0;lost 0");
        int[] shelves = {0, 7};
        for (int s : shelves) {
            x.sound(0, s);
            DUE.same("a ROW of bytes for NOTHING", x.holds(s), 0);
            DUE.same("of 8: the last", x.element(s, 7), 2);
            DUE.same("of 8: behind it", x.set(s, 8, 1), Scene.BAD);
            x.sound(1, s);
            DUE.same("of one", x.element(s, 0), 4);
            DUE.same("of one: behind it", x.set(s, 1, 1), Scene.BAD);
            x.row(s, 3, 40);
            x.sound(1, s);
            DUE.same("a ROW of bytes for longs", x.holds(s), 0);
            DUE.same("one for 40", x.element(s, 1), 0);
            x.show(s, 0);
            x.sound(1, s);
            DUE.same("a ROW of bytes for an EAR", x.holds(s), 0);
        }
    }

    private static void promise48Bad() {
        doc.promise(48, "BAD.");
        int[][] bad = {{-1, 0}, {2, 0}, {MIN, 0}, {MAX, 0}, {0, -1}, {0, 8}, {0, MIN}, {0, MAX}, {2, 8}};
        for (int[] v : bad) {
            refuses("sound(" + v[0] + ", " + v[1] + ")", Scene.BAD, x -> x.sound(v[0], v[1]));
        }
        refusesWithout("sound(0, 0)", Scene.BAD, x -> x.sound(0, 0));
    }

    private static void promise49Refuses() {
        doc.promise(49, "n DAYS (1 to 99): how often another CALL is done. BAD; STUCK: no CALLS.");
        int[] bad = {0, -1, 100, MIN, MAX};
        for (int n : bad) {
            refuses("days(" + n + ")", Scene.BAD, x -> x.days(n));
            refusesWithout("days(" + n + ")", Scene.BAD, x -> x.days(n));
        }
        refusesWithout("days(1)", Scene.STUCK, x -> x.days(1));
        refusesWithout("days(99)", Scene.STUCK, x -> x.days(99));
        SoupOrHorses x = Scene.camp("call a 1 1;call a 1 1;lost 0");
        int all = 0;
        for (int i = 0; i < 99; i++) {
            int more = x.days(1);
            DUE.holds("one day is wrong at most", more == 0 || more == 1);
            all += more;
        }
        x.seed(1);
        DUE.same("99 days at once", x.days(99), all);
    }

    private static void promise49IntoNoShelf() {
        doc.promise(49, "n DAYS (1 to 99): how often another CALL is done.");
        SoupOrHorses x = whole();
        List<Long> before = Scene.all(x);
        x.days(99);
        List<Long> after = Scene.all(x);
        DUE.holds("SEED becomes another", !before.get(8).equals(after.get(8)));
        after.set(8, before.get(8));
        DUE.holds("all else stays", before.equals(after));
    }

    private static void promise50HowManyAreLeft() {
        doc.promise(50, "The last CALL is sounded no more: how many are left.");
        SoupOrHorses x = Scene.camp("call a 1 1" + ";call b 2 1".repeat(11));
        for (int left = 11; left >= 0; left--) {
            DUE.same("left", x.drop(), left);
            DUE.same("CALLS", x.status(0), left);
            DUE.same("the last one is gone", x.callOf(left, 0), Scene.BAD);
        }
        DUE.same("NOTES, USES", x.status(3) + x.status(4), 0);
        DUE.same("one again", Scene.read(x, "call cd 5 6"), 1);
        DUE.same("one again: how many NOTES", x.callOf(0, 0), 2);
        DUE.same("one again: its NOTES", x.callOf(0, 10) * 10 + x.callOf(0, 11), 23);
    }

    private static void promise50Stuck() {
        doc.promise(50, "STUCK: there is none.");
        refusesWithout("drop()", Scene.STUCK, SoupOrHorses::drop);
        Scene.refuses(DUE, "a new object, drop()", Scene.STUCK, SoupOrHorses::new, SoupOrHorses::drop);
    }

    private static void promise51AnyInt() {
        doc.promise(51, "SEED becomes v: the one ahead.");
        SoupOrHorses x = new SoupOrHorses();
        int[] seeds = {MIN, MAX, 0, -1, 1};
        int ahead = 1;
        for (int seed : seeds) {
            DUE.same("SEED becomes " + seed, x.seed(seed), ahead);
            DUE.same("SEED is " + seed, x.status(8), seed);
            ahead = seed;
        }
        DUE.same("REFUSALS", x.status(12) + x.status(13) + x.status(14) + x.status(15) + x.status(16), 0);
    }

    private static void promise52Kept() {
        doc.promise(52, "All is kept, but THE TAPE, SHELVES and REFUSALS: 1.");
        SoupOrHorses x = new SoupOrHorses();
        DUE.same("of none", x.image(), 1);
        Scene.read(x, "call abc 30 10;ear 0 0;man 0 1;sure 1;lost 2");
        x.seed(3);
        DUE.same("back to none", x.back(), 1);
        int[] none = {0, 0, 0, 0, 0, 600, 20, 0, 1, 0, 0};
        for (int what = 0; what < none.length; what++) {
            DUE.same("back to none: status(" + what + ")", x.status(what), none[what]);
        }
        Scene.read(x, "call abc 30 10;call de 40 20;ear 0 3;ear 5 1;man 0 1;man 1 0;sure 1;lost 2");
        x.seed(3);
        DUE.same("for another", x.image(), 1);
        List<Long> kept = Scene.all(x);
        x.tell(0, 0, 99);
        x.tell(1, 1, 99);
        x.drop();
        x.ask(0, 5);
        x.ask(1, 5);
        x.seed(5);
        Scene.read(x, "call eeeeeeee 1 1;ear 1 1;man 0 0");
        DUE.same("back to that", x.back(), 1);
        DUE.holds("all is as it was kept", kept.equals(Scene.all(x)));
    }

    private static void promise52ButThese() {
        doc.promise(52, "but THE TAPE, SHELVES and REFUSALS");
        SoupOrHorses x = Scene.camp("ear 0 0");
        Scene.feed(x, "sure");
        x.row(0, 1, 1);
        x.drop();
        x.image();
        Scene.feed(x, " 7");
        x.row(0, 2, 1);
        x.set(0, 0, 70000);
        x.row(1, 0, 0);
        x.drop();
        x.back();
        DUE.same("THE TAPE", x.status(7), 6);
        DUE.same("a SHELF", x.holds(0), 2);
        DUE.same("its element", x.element(0, 0), 70000);
        DUE.same("SHELVES that hold something", x.status(9), 2);
        DUE.same("REFUSALS", x.status(15), 2);
        DUE.same("THE TAPE is a CAMP", x.camp(), 1);
        DUE.same("SURE", x.status(5), 7);
    }

    private static void promise53SameNumbers() {
        doc.promise(53, "(SHELVES with EARS hold those of the same numbers, or NOTHING)");
        SoupOrHorses x = Scene.camp("ear 1 5;ear 2 0");
        x.show(0, 1);
        x.image();
        Scene.read(x, "ear 3 0;ear 4 0;ear 5 0;ear 1 1");
        x.show(0, -1);
        for (int s = 1; s < 7; s++) {
            x.show(s, s - 1);
        }
        x.row(7, 3, 1);
        x.back();
        int[] holds = {-1, 10, 11, -1, -1, -1, -1, 3};
        for (int s = 0; s < 8; s++) {
            DUE.same("SHELF " + s, x.holds(s), holds[s]);
        }
        DUE.same("those that hold something", x.status(9), 3);
        DUE.same("what the EAR of the same number says", x.says(1, 1), 5);
        DUE.same("the next EAR", x.ear(5, 5), 2);
        DUE.same("a SHELF that held the EAR of that number", x.holds(3), -1);
        SoupOrHorses y = new SoupOrHorses();
        y.image();
        Scene.read(y, "ear 1 1");
        y.show(0, 0);
        y.back();
        DUE.same("no EARS", y.holds(0), -1);
        // Another EAR of that number than the one that the SHELF was told to hold.
        SoupOrHorses z = Scene.camp("ear 1 1");
        z.image();
        Scene.read(z, "ear 1 2");
        z.back();
        Scene.read(z, "ear 1 3");
        z.show(0, 1);
        z.image();
        z.back();
        DUE.same("the EAR of that number as it was kept", z.says(0, 1), 3);
    }

    private static void promise53Stuck() {
        doc.promise(53, "STUCK: nothing was.");
        Scene.refuses(DUE, "a new object", Scene.STUCK, SoupOrHorses::new, SoupOrHorses::back);
        Scene.refuses(DUE, "a CAMP", Scene.STUCK, () -> Scene.camp(TWO), SoupOrHorses::back);
        SoupOrHorses x = whole();
        DUE.same("once kept", x.back(), 1);
        DUE.same("twice back", x.back(), 1);
        x.drop();
        x.image();
        x.drop();
        DUE.same("kept again", x.back(), 1);
        DUE.same("as it was kept last", x.status(0), 1);
        SoupOrHorses y = new SoupOrHorses();
        y.image();
        DUE.same("none kept is something, too", y.back(), 1);
    }

    private static void promise54None() {
        doc.promise(54, "12 to 16: REFUSALS -2 to -6. NONE another what.");
        SoupOrHorses x = whole();
        int[] others = {-1, 11, 17, 18, 100, MIN, MAX, MIN + 12};
        for (int what : others) {
            DUE.same("status(" + what + ")", x.status(what), -1);
        }
        for (int what = 12; what <= 16; what++) {
            DUE.same("none so far: status(" + what + ")", x.status(what), 0);
        }
        x.row(8, 0, 0);
        x.set(1, 0, 0);
        x.set(2, 0, 0);
        x.judge(2, 0);
        x.nearest(0, 3, 0);
        for (int i = 0; i < 8; i++) {
            x.ear(0, 0);
        }
        int[] want = {1, 1, 2, 1, 4};
        for (int i = 0; i < want.length; i++) {
            DUE.same("REFUSALS " + (-2 - i), x.status(12 + i), want[i]);
        }
    }

    private static void promise54Counts() {
        doc.promise(54, "CALLS (0), EARS (1), MEN (2), all NOTES (3), all USES (4), SURE (5), LOST (6), THE TAPE's size (7), "
            + "SEED (8), SHELVES that hold something (9), MEN who LOOK (10)");
        SoupOrHorses x = new SoupOrHorses();
        int[] none = {0, 0, 0, 0, 0, 600, 20, 0, 1, 0, 0};
        for (int what = 0; what < none.length; what++) {
            DUE.same("of a new object: " + what, x.status(what), none[what]);
        }
        x.row(0, 0, 8);
        for (int i = 0; i < 12; i++) {
            x.call(0, 8, 99, 99);
        }
        for (int i = 0; i < 6; i++) {
            x.ear(0, 0);
            x.show(i + 1, i);
        }
        for (int i = 0; i < 8; i++) {
            x.man(0, 1);
        }
        for (int i = 0; i < 250; i++) {
            x.feed(0);
        }
        x.row(7, 4, 40);
        x.ask(0, 1000);
        x.ask(1, 100);
        x.seed(MIN);
        int[] most = {12, 6, 8, 96, 12 * 99, 1000, 100, 250, MIN, 8, 8};
        for (int what = 0; what < most.length; what++) {
            DUE.same("the most of all: " + what, x.status(what), most[what]);
        }
    }
}
