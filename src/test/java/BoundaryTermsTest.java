import java.util.List;
import java.util.stream.IntStream;

/** The sentences of the Terms behind THE CAMP that name a boundary, each with a test of its own. */
public final class BoundaryTermsTest {
    private static final Due DUE = new Due();
    private static Doc doc;

    public static void main(String[] args) throws Exception {
        doc = new Doc(DUE);
        tornHasNoMore();
        lateLosesTheLast();
        splitAndFar();
        echoOfPlaces();
        echoLeavesTheFirst();
        fitsAtLeast();
        fitsJust();
        likelyIsCut();
        guessIsTheFirst();
        guessIsNone();
        apartInPlaces();
        knownBehind();
        knownBehindAll();
        nothingIsChanged();
        alikeIsTheFirst();
        mixedOfAsMany();
        freshIsTheFirst();
        keepIsTheLeast();
        doesIfSure();
        doesWhatMostDo();
        leadsIsTheFirst();
        riskIsCut();
        learnIsTheFirst();
        nearestDiffers();
        judgeIsTheFirst();
        whenIsTheFewest();
        soundedByDraws();
        daysByDraws();
        drawsWrap();
        shelvesAtFirst();
        rowsAtFirst();
        lowestBits();
        refusalsChangeNothing();
        DUE.end();
    }

    private static void heard(String text, String want) {
        SoupOrHorses x = Scene.camp(text);
        for (int i = 0; i < want.length(); i++) {
            DUE.same(text + ", place " + i + " of " + want, x.heard(0, 0, i), want.charAt(i) - '0');
        }
        DUE.same(text + ", behind " + want, x.heard(0, 0, want.length()), Scene.BAD);
    }

    private static void tornHasNoMore() {
        doc.terms("TORN: the first a are GONE (all, if there are no more).");
        heard("call abcde 1 1;ear 1 0", "01234");
        heard("call abcde 1 1;ear 1 1", "91234");
        heard("call abcde 1 1;ear 1 4", "99994");
        heard("call abcde 1 1;ear 1 5", "99999");
        heard("call abcde 1 1;ear 1 6", "99999");
        heard("call e 1 1;ear 1 9", "9");
        heard("call e 1 1;ear 1 0", "4");
        heard("call abcdeabc 1 1;ear 1 7", "99999992");
        heard("call abcdeabc 1 1;ear 1 8", "99999999");
    }

    private static void lateLosesTheLast() {
        doc.terms("LATE: as TORN, and the last one is.");
        heard("call abcde 1 1;ear 3 0", "01239");
        heard("call abcde 1 1;ear 3 3", "99939");
        heard("call abcde 1 1;ear 3 4", "99999");
        heard("call abcde 1 1;ear 3 5", "99999");
        heard("call abcde 1 1;ear 3 9", "99999");
        heard("call e 1 1;ear 3 0", "9");
        heard("call ee 1 1;ear 3 0", "49");
    }

    private static void splitAndFar() {
        doc.terms("FAR: as SPLIT, and each NOTE 0 is GONE.");
        heard("call eeeeaaaa 1 1;ear 2 9", "33330000");
        heard("call eeeeaaaa 1 1;ear 4 9", "33339999");
        heard("call dcb 1 1;ear 4 0", "321");
        heard("call a 1 1;ear 4 0", "9");
        heard("call e 1 1;ear 4 0", "3");
    }

    private static void echoOfPlaces() {
        doc.terms("each NOTE whose place (0 on) is a more than a multiple of a and 1");
        heard("call abcdeabc 1 1;ear 5 1", "00224411");
        heard("call abcdeabc 1 1;ear 5 2", "01134412");
        heard("call abcdeabc 1 1;ear 5 3", "01224011");
        heard("call abcdeabc 1 1;ear 5 6", "01234002");
        heard("call abcdeabc 1 1;ear 5 7", "01234011");
        heard("call abcdeabc 1 1;ear 5 8", "01234012");
        heard("call abcdeabc 1 1;ear 5 9", "01234012");
    }

    private static void echoLeavesTheFirst() {
        doc.terms("(the first one: as it is)");
        heard("call e 1 1;ear 5 0", "4");
        heard("call edcb 1 1;ear 5 0", "4432");
        heard("call edcb 1 1;ear 5 1", "4422");
    }

    /** Which CALLS FIT a told HEARING by EAR 0. */
    private static void fit(SoupOrHorses x, String told, boolean over, String want) {
        Scene.put(x, 0, told.chars().map(c -> c - '0').toArray());
        for (int call = 0; call < want.length(); call++) {
            DUE.same("CALL " + call + ", HEARING " + told + ", OVER " + over, x.fits(0, told.length(), over, 0, call),
                want.charAt(call) - '0');
        }
    }

    private static void fitsAtLeast() {
        doc.terms("A CALL FITS it by an EAR, if it has n NOTES at least");
        SoupOrHorses x = Scene.camp("call ab 1 1;call abc 1 1;call abcdeabc 1 1;ear 0 0");
        fit(x, "", false, "111");
        fit(x, "01", false, "111");
        fit(x, "012", false, "011");
        fit(x, "999", false, "011");
        fit(x, "0123", false, "001");
        fit(x, "01234012", false, "001");
        fit(x, "01234011", false, "000");
    }

    private static void fitsJust() {
        doc.terms("(OVER: just n)");
        SoupOrHorses x = Scene.camp("call ab 1 1;call abc 1 1;call abcdeabc 1 1;ear 0 0");
        fit(x, "", true, "000");
        fit(x, "0", true, "000");
        fit(x, "01", true, "100");
        fit(x, "012", true, "010");
        fit(x, "99", true, "100");
        fit(x, "01234012", true, "001");
    }

    private static void likelyIsCut() {
        doc.terms("LIKELY of a CALL: 1000 times its USE by USES of all that FIT (cut), 0 if it doesn't.");
        StringBuilder text = new StringBuilder("ear 0 0;call ab 1 1");
        SoupOrHorses x = Scene.camp("call a 1 1;call a 2 1;call b 99 1;ear 0 0");
        Scene.put(x, 0, 0);
        DUE.same("1 of 3", x.likely(0, 1, true, 0, 0), 333);
        DUE.same("2 of 3", x.likely(0, 1, true, 0, 1), 666);
        DUE.same("another one", x.likely(0, 1, true, 0, 2), 0);
        Scene.put(x, 0, 1);
        DUE.same("the only one", x.likely(0, 1, true, 0, 2), 1000);
        Scene.put(x, 0, 2);
        DUE.same("none FITS", x.likely(0, 1, true, 0, 2), 0);
        for (int i = 0; i < 11; i++) {
            text.append(";call ab 99 1");
        }
        SoupOrHorses y = Scene.camp(text.toString());
        Scene.put(y, 0, 0, 1);
        DUE.same("1 of 1090", y.likely(0, 2, true, 0, 0), 0);
        DUE.same("99 of 1090", y.likely(0, 2, true, 0, 11), 90);
    }

    private static void guessIsTheFirst() {
        doc.terms("GUESS: the one of most USE that FITS, of several the first");
        SoupOrHorses x = Scene.camp("call b 99 1;call a 5 1;call ab 7 1;call a 7 1;call ac 7 1;ear 0 0");
        Scene.put(x, 0, 0);
        DUE.same("behind a", x.guess(0, 1, false, 0), 2);
        DUE.same("a, OVER", x.guess(0, 1, true, 0), 3);
        x.tell(1, 0, 7);
        DUE.same("a, OVER, of two", x.guess(0, 1, true, 0), 1);
        DUE.same("behind nothing", x.guess(0, 0, false, 0), 0);
    }

    private static void guessIsNone() {
        doc.terms("of several the first; NONE.");
        SoupOrHorses x = Scene.camp("call b 99 1;ear 0 0");
        Scene.put(x, 0, 0);
        DUE.same("none FITS", x.guess(0, 1, false, 0), -1);
        DUE.same("nothing, OVER", x.guess(0, 0, true, 0), -1);
        x.drop();
        DUE.same("no CALLS", x.guess(0, 0, false, 0), -1);
    }

    private static void apartInPlaces() {
        doc.terms("APART: of two CALLS in how many places they differ (a place only one of them has counts, too).");
        SoupOrHorses x = Scene.camp("call a 1 1;call aaaaaaaa 1 1;call baaaaaaa 1 1;call bbbbbbbb 1 1;call a 9 9");
        DUE.same("one itself", x.apart(1, 1), 0);
        DUE.same("the same NOTES", x.apart(0, 4), 0);
        DUE.same("7 places of one alone", x.apart(0, 1), 7);
        DUE.same("the other way", x.apart(1, 0), 7);
        DUE.same("those and one", x.apart(0, 2), 8);
        DUE.same("one of 8", x.apart(1, 2), 1);
        DUE.same("all 8", x.apart(1, 3), 8);
    }

    private static void knownBehind() {
        doc.terms("that many and 1, if it takes its being OVER");
        SoupOrHorses x = Scene.camp("call ab 1 1;call abc 1 1;call e 1 1;ear 0 0");
        DUE.same("begins another: 2 and 1", x.known(0, 0), 3);
        DUE.same("behind its last NOTE", x.known(1, 0), 3);
        DUE.same("behind its first NOTE", x.known(2, 0), 1);
        x.drop();
        x.drop();
        DUE.same("alone: behind none", x.known(0, 0), 0);
        SoupOrHorses y = Scene.camp("call abcdeabc 1 1;call abcdeabd 1 1;call abcdeab 1 1;ear 0 0");
        DUE.same("behind all 8", y.known(0, 0), 8);
        DUE.same("OVER behind 7", y.known(2, 0), 8);
    }

    private static void knownBehindAll() {
        doc.terms("NONE: not even then.");
        SoupOrHorses x = Scene.camp("call ab 1 1;call ab 1 1;call abc 1 1;ear 0 0;ear 3 0");
        DUE.same("the same NOTES", x.known(0, 0), -1);
        DUE.same("the same NOTES, the other", x.known(1, 0), -1);
        DUE.same("longer than those", x.known(2, 0), 3);
        // By LATE the b of ab is GONE, so that two NOTES of abc aren't enough, though they are 0 and 1 by it.
        DUE.same("by LATE", x.known(2, 1), 3);
        SoupOrHorses y = Scene.camp("call a 1 1;call b 1 1;call abcdeabc 1 1;call abcdeabc 1 1;ear 1 1;ear 0 0");
        DUE.same("GONE", y.known(0, 0), -1);
        DUE.same("not GONE", y.known(0, 1), 2);
        DUE.same("not GONE, behind its NOTE", y.known(1, 1), 1);
        DUE.same("of 8", y.known(2, 1), -1);
    }

    private static SoupOrHorses whole() {
        SoupOrHorses x = Scene.camp("call abc 30 10;call abd 50 20;call aaaaa 20 90;call abcdeabc 5 5;"
            + "ear 0 0;ear 1 1;ear 4 0;man 0 0;man 1 1;man 2 1;sure 700;lost 30");
        Scene.put(x, 0, 0, 1, 9);
        x.row(1, 4, 3);
        x.show(2, 1);
        Scene.feed(x, "use 0");
        x.seed(77);
        return x;
    }

    private static void nothingIsChanged() {
        doc.terms("WHAT COMES OF IT (nothing is changed)");
        SoupOrHorses x = whole();
        List<Long> before = Scene.all(x);
        long[] answers = {x.says(2, 1), x.heard(3, 2, 4), x.fits(0, 3, true, 0, 1), x.likely(0, 3, true, 0, 1),
            x.guess(0, 3, true, 0), x.apart(0, 3), x.known(0, 1), x.earFor(0), x.mean(1), x.worst(1), x.next(0, 2, 0),
            x.alikeFirst(0, 1), x.notes(0), x.twins(), x.change(0, 3), x.alike(0), x.mixed(1, 0), x.fresh(5, 4),
            x.keep(3), x.does(0, 2), x.right(0), x.leads(0), x.follows(0), x.sureFor(0), x.risk(0, 1), x.learn(0),
            x.nearest(0, 3, 0), x.judge(0, 3), x.when(0, 3, 0)};
        for (long answer : answers) {
            DUE.holds("none is refused: " + answer, answer >= -1);
        }
        DUE.holds("all is as it was", before.equals(Scene.all(x)));
    }

    private static void alikeIsTheFirst() {
        doc.terms("ALIKE: the two CALLS (the lesser first) least APART, of several the first.");
        SoupOrHorses x = Scene.camp("call aaa 1 1;call bbb 1 1;call ccc 1 1;call ccd 1 1;call bbc 1 1");
        DUE.same("1 and 4 ahead of 2 and 3", x.alike(0), 104);
        DUE.same("how far", x.alike(1), 1);
        SoupOrHorses y = Scene.camp("call aa 1 1;call bb 1 1");
        DUE.same("just two", y.alike(0), 1);
        DUE.same("just two: how far", y.alike(1), 2);
        SoupOrHorses z = Scene.camp("call aaaaaaaa 1 1;call bbbbbbbb 1 1;call cccccccc 1 1");
        DUE.same("as far as can be", z.alike(1), 8);
        DUE.same("as far as can be: the first", z.alike(0), 1);
    }

    private static void mixedOfAsMany() {
        doc.terms("MIXED by an EAR: pairs of CALLS (the lesser first) of as many NOTES");
        SoupOrHorses x = Scene.camp("call a 1 1;call ab 1 1;call abc 1 1;ear 1 9;ear 0 0");
        DUE.same("all GONE, of other sizes", x.mixed(0, 0), 0);
        DUE.same("all GONE, of other sizes: the first", x.mixed(0, 1), -1);
        Scene.read(x, "call ede 1 1");
        DUE.same("all GONE", x.mixed(0, 0), 1);
        DUE.same("all GONE: the first", x.mixed(0, 1), 203);
        DUE.same("none GONE", x.mixed(1, 0), 0);
    }

    private static void freshIsTheFirst() {
        doc.terms("the first row (as a number to base 5, the first NOTE the highest) that is d APART at least "
            + "from all CALLS; NONE.");
        SoupOrHorses x = Scene.camp("call aaaaa 1 1;call bbbbb 1 1;call ccccc 1 1;call ddddd 1 1");
        DUE.same("the last row of 5", x.fresh(5, 5), 3124);
        DUE.same("none of 5", x.fresh(5, 6), -1);
        DUE.same("the first row", x.fresh(5, 0), 0);
        DUE.same("the second row", x.fresh(5, 1), 1);
        DUE.same("in the last two places", x.fresh(5, 2), 6);
        DUE.same("the first row of 1 is 4 APART", x.fresh(1, 4), 0);
        DUE.same("the last row of 1 is 5 APART", x.fresh(1, 5), 4);
        SoupOrHorses y = new SoupOrHorses();
        DUE.same("no CALLS", y.fresh(5, 8), 0);
        SoupOrHorses z = Scene.camp("call a 1 1;call b 1 1;call c 1 1;call d 1 1;call e 1 1");
        DUE.same("none of 1", z.fresh(1, 1), -1);
        DUE.same("the first of 2: its second place is no one's", z.fresh(2, 1), 0);
        DUE.same("none of 2 is 2 APART", z.fresh(2, 2), -1);
    }

    private static void keepIsTheLeast() {
        doc.terms("with most USE together, of several the least as bits.");
        DUE.same("no CALLS", new SoupOrHorses().keep(8), 0);
        DUE.same("one CALL", Scene.camp("call a 1 1").keep(8), 1);
        DUE.same("one of two, the least bits", Scene.camp("call a 7 1;call a 7 1").keep(1), 1);
        DUE.same("one of two, more USE", Scene.camp("call a 7 1;call a 8 1").keep(1), 2);
        DUE.same("two of less USE together", Scene.camp("call aa 3 1;call ab 5 1;call bb 3 1").keep(2), 5);
        DUE.same("as much together as one, more bits", Scene.camp("call ab 6 1;call aa 3 1;call bb 3 1").keep(2), 1);
        DUE.same("as much together as one, less bits", Scene.camp("call aa 3 1;call bb 3 1;call ab 6 1").keep(2), 3);
        DUE.same("just d APART", Scene.camp("call aa 3 1;call ab 5 1").keep(1), 3);
        DUE.same("8 APART", Scene.camp("call aaaaaaaa 1 1;call bbbbbbbb 1 1").keep(8), 3);
    }

    private static void does(SoupOrHorses x, int call, int... want) {
        for (int man = 0; man < want.length; man++) {
            DUE.same("man " + man, x.does(call, man), want[man]);
        }
    }

    private static void doesIfSure() {
        doc.terms("his GUESS, if its LIKELY is SURE at least");
        // By EAR 1 a and b are one: b is the GUESS, and its LIKELY is 750.
        SoupOrHorses x = Scene.camp("call a 25 1;call b 75 1;ear 0 0;ear 1 1;man 0 0;man 1 1;sure 750");
        does(x, 0, 0, 1);
        x.ask(0, 751);
        does(x, 0, 0, 0);
        x.ask(0, 749);
        does(x, 0, 0, 1);
        x.ask(0, 1000);
        does(x, 0, 0, 0);
        x.ask(0, 0);
        does(x, 0, 0, 1);
    }

    private static void doesWhatMostDo() {
        doc.terms("what most of these do, of several the least CALL; else his GUESS.");
        String calls = "call a 25 1;call b 75 1;ear 0 0;ear 1 1;sure 1000";
        does(Scene.camp(calls + ";man 1 1;man 0 0"), 0, 1, 0);
        does(Scene.camp(calls + ";man 1 0;man 0 0;man 1 1"), 0, 1, 0, 0);
        does(Scene.camp(calls + ";man 0 0;man 1 0;man 1 1"), 0, 0, 1, 0);
        does(Scene.camp(calls + ";man 1 0;man 1 0;man 0 0;man 1 1"), 0, 1, 1, 0, 1);
        does(Scene.camp(calls + ";man 0 0;man 1 0"), 0, 0, 1);
        does(Scene.camp(calls + ";man 0 0;man 1 1;man 1 0;man 1 0;man 1 0;man 1 1;man 1 1;man 0 1"), 0,
            0, 0, 1, 1, 1, 1, 1, 0);
    }

    private static void leadsIsTheFirst() {
        doc.terms("LEADS: of all MEN who do another the first.");
        String calls = "call a 25 1;call b 75 1;ear 0 0;ear 1 1;sure 0";
        SoupOrHorses x = Scene.camp(calls + ";man 0 0;man 1 0;man 0 0;man 1 0");
        DUE.same("of two", x.leads(0), 1);
        DUE.same("all do it", x.leads(1), -1);
        DUE.same("how many", x.right(0), 2);
        DUE.same("all", x.right(1), 4);
        DUE.same("the first of all", Scene.camp(calls + ";man 1 0").leads(0), 0);
        DUE.same("no MEN", Scene.camp(calls).leads(0), -1);
        SoupOrHorses y = Scene.camp("call a 75 1;call b 25 1;ear 0 0;ear 1 1;sure 0;man 0 0;man 1 0");
        DUE.same("he does CALL 0", y.leads(1), 1);
    }

    private static void riskIsCut() {
        doc.terms("USES of all others that FIT times their COST, by all USES that FIT (cut)");
        SoupOrHorses x = Scene.camp("call a 1 99;call a 99 99;call b 99 99;ear 0 0");
        DUE.same("99 times 99 by 100", x.risk(0, 0), 98);
        x.tell(0, 0, 2);
        DUE.same("198 by 101", x.risk(1, 0), 1);
        x.tell(0, 0, 1);
        DUE.same("99 by 100", x.risk(1, 0), 0);
        DUE.same("no others", x.risk(2, 0), 0);
        x.tell(1, 1, 0);
        DUE.same("others without COST", x.risk(0, 0), 0);
        SoupOrHorses y = Scene.camp("call a 1 1;call a 1 1;ear 0 0");
        DUE.same("1 by 2", y.risk(0, 0), 0);
        y.tell(1, 1, 2);
        DUE.same("2 by 2", y.risk(0, 0), 1);
        y.tell(1, 1, 3);
        DUE.same("3 by 2", y.risk(0, 0), 1);
    }

    private static void learnIsTheFirst() {
        doc.terms("LEARN first: CALLS by USE times COST, the greatest first, of several the first by number: the i-th.");
        SoupOrHorses x = Scene.camp("call a 1 0;call a 99 0;call a 2 6;call a 6 2;call a 99 99;call a 12 1;call a 1 13");
        int[] want = {4, 6, 2, 3, 5, 0, 1};
        for (int i = 0; i < want.length; i++) {
            DUE.same("the i-th, i " + i, x.learn(i), want[i]);
        }
        DUE.same("behind the last", x.learn(7), Scene.BAD);
        DUE.same("ahead of the first", x.learn(-1), Scene.BAD);
    }

    private static void nearest(SoupOrHorses x, String told, int call, int far) {
        Scene.put(x, 0, told.chars().map(c -> c - '0').toArray());
        DUE.same("to " + told, x.nearest(0, told.length(), 0), call);
        DUE.same("to " + told + ": by how many", x.nearest(0, told.length(), 1), far);
    }

    private static void nearestDiffers() {
        doc.terms("(GONE ones don't; a place only one has does), of several the first; by how many.");
        SoupOrHorses x = Scene.camp("call abc 1 1;call abcdeabc 1 1;call eee 1 1");
        nearest(x, "", 0, 3);
        nearest(x, "999", 0, 0);
        nearest(x, "994", 2, 0);
        nearest(x, "444", 2, 0);
        nearest(x, "9999", 0, 1);
        nearest(x, "01234", 0, 2);
        nearest(x, "012340", 1, 2);
        nearest(x, "99999", 0, 2);
        nearest(x, "33333333", 1, 7);
        nearest(x, "99999999", 1, 0);
        nearest(x, "042", 0, 1);
        nearest(x, "044", 2, 1);
    }

    private static void judgeIsTheFirst() {
        doc.terms("JUDGE: the first element that is no NOTE, nor GONE; NONE.");
        SoupOrHorses x = new SoupOrHorses();
        x.row(0, 3, 40);
        DUE.same("all 40 are NOTES", x.judge(0, 40), -1);
        x.set(0, 39, 9);
        DUE.same("one is GONE", x.judge(0, 40), -1);
        long[] others = {-1, 5, 6, 7, 8, 10, Long.MAX_VALUE, Long.MIN_VALUE, 1L << 32, (1L << 32) + 9, 265};
        for (long other : others) {
            x.set(0, 39, other);
            DUE.same("the last is " + other, x.judge(0, 40), 39);
            DUE.same("ahead of " + other, x.judge(0, 39), -1);
        }
        x.set(0, 0, 5);
        DUE.same("the first of two", x.judge(0, 40), 0);
        DUE.same("of none", x.judge(0, 0), -1);
    }

    private static void whenIsTheFewest() {
        doc.terms("WHEN: the fewest of its elements, not OVER, behind which LIKELY of its GUESS by an EAR is SURE at "
            + "least; NONE.");
        SoupOrHorses x = Scene.camp("call ab 25 1;call ac 50 1;call bb 25 1;ear 0 0");
        Scene.put(x, 0, 0, 1, 0);
        x.ask(0, 500);
        DUE.same("500 behind none", x.when(0, 3, 0), 0);
        x.ask(0, 501);
        DUE.same("666 behind one", x.when(0, 3, 0), 1);
        x.ask(0, 666);
        DUE.same("just 666", x.when(0, 3, 0), 1);
        x.ask(0, 667);
        DUE.same("1000 behind two", x.when(0, 3, 0), 2);
        x.ask(0, 1000);
        DUE.same("just 1000", x.when(0, 3, 0), 2);
        DUE.same("never of one", x.when(0, 1, 0), -1);
        DUE.same("never of none", x.when(0, 0, 0), -1);
        Scene.put(x, 0, 4, 1, 0);
        DUE.same("nothing FITS", x.when(0, 3, 0), -1);
        x.ask(0, 0);
        DUE.same("SURE is 0", x.when(0, 3, 0), 0);
    }

    /** Seeds whose followers have these upper 16 bits, which a DRAW below 100 takes modulo 100. */
    private static final int[] SEEDS = {230538014, 2088216195, -1916945634, -115164386, -404969853, 20036382, -269769085};
    private static final int[] UPPERS = {65535, 32768, 32767, 0, 1, 99, 100};

    private static void soundedByDraws() {
        doc.terms("each GONE if a DRAW below 100 is below LOST.");
        SoupOrHorses x = Scene.camp("call e 1 1");
        for (int i = 0; i < SEEDS.length; i++) {
            int draw = UPPERS[i] % 100;
            for (int lost = draw; lost <= draw + 1; lost++) {
                x.ask(1, lost);
                x.seed(SEEDS[i]);
                DUE.same("DRAW " + draw + ", LOST " + lost, x.sound(0, 0), lost - draw);
                DUE.same("DRAW " + draw + ", LOST " + lost + ": NOTE", x.element(0, 0), lost == draw ? 4 : 9);
            }
        }
        SoupOrHorses y = Scene.camp("call abcdeabc 1 1");
        for (int seed = -20; seed < 20; seed++) {
            y.seed(seed);
            y.ask(1, 100);
            DUE.same("LOST 100", y.sound(0, 0), 8);
            y.ask(1, 0);
            DUE.same("LOST 0", y.sound(0, 0), 0);
        }
    }

    private static void daysByDraws() {
        doc.terms("A DAY by draws, n times: a CALL, a DRAW below how many there are");
        // The DRAWS below 2 are the upper bits' lowest; with all GONE CALL 0 is done.
        SoupOrHorses x = Scene.camp("call a 1 1;call b 1 1;lost 100");
        for (int i = 0; i < SEEDS.length; i++) {
            x.seed(SEEDS[i]);
            DUE.same("upper bits " + UPPERS[i], x.days(1), UPPERS[i] % 2);
        }
        x.ask(1, 0);
        DUE.same("none LOST", x.days(99), 0);
        SoupOrHorses y = Scene.camp("call abc 1 1;lost 100");
        DUE.same("one CALL alone", y.days(99), 0);
        int seed = 1;
        for (int i = 0; i < 99 * 4; i++) {
            seed = seed * 1103515245 + 12345;
        }
        DUE.same("a DRAW for the CALL and for each NOTE", y.status(8), seed);
    }

    private static void drawsWrap() {
        doc.terms("(an int, wrapping); its upper 16 bits, no sign, modulo n.");
        SoupOrHorses x = Scene.camp("call e 1 1");
        DUE.same("SEED at first", x.status(8), 1);
        int[] seeds = {0, 1, -1, Integer.MAX_VALUE, Integer.MIN_VALUE, 230538014, 2088216195};
        int[] followers = {12345, 1103527590, -1103502900, 1043980748, -2147471303, -1, Integer.MIN_VALUE};
        for (int i = 0; i < seeds.length; i++) {
            x.seed(seeds[i]);
            x.sound(0, 0);
            DUE.same("behind SEED " + seeds[i], x.status(8), followers[i]);
        }
    }

    private static void shelvesAtFirst() {
        doc.terms("SHELVES 0 to 7 hold NOTHING (at first), a ROW, or an EAR.");
        SoupOrHorses x = Scene.camp("ear 0 0");
        int[] shelves = {-1, 0, 7, 8, Integer.MIN_VALUE, Integer.MAX_VALUE};
        for (int s : shelves) {
            boolean isThere = s == 0 || s == 7;
            DUE.same("at first: " + s, x.holds(s), -1);
            DUE.same("a ROW: " + s, x.row(s, 2, 1), isThere ? 1 : Scene.BAD);
            DUE.same("holds it: " + s, x.holds(s), isThere ? 2 : -1);
            DUE.same("an EAR: " + s, x.show(s, 0), isThere ? 1 : Scene.BAD);
            DUE.same("holds that: " + s, x.holds(s), isThere ? 10 : -1);
        }
        DUE.same("those that hold something", x.status(9), 2);
    }

    private static void rowsAtFirst() {
        doc.terms("0 to 40 elements (0, or not so, at first)");
        SoupOrHorses x = new SoupOrHorses();
        for (int sort = 0; sort < 5; sort++) {
            x.row(0, sort, 40);
            for (int i = 0; i < 40; i += 13) {
                DUE.same("element " + i + " at first", x.element(0, i), 0);
                x.set(0, i, 1);
            }
            DUE.same("the last place", x.set(0, 39, 1), 1);
            DUE.same("behind it", x.set(0, 40, 1), Scene.BAD);
            DUE.same("a ROW of none", x.row(0, sort, 0), 1);
            DUE.same("a ROW of none: its SORT", x.holds(0), sort);
            DUE.same("a ROW of none: its first place", x.set(0, 0, 1), Scene.BAD);
            x.row(0, sort, 40);
            int sum = IntStream.range(0, 40).map(i -> (int) x.element(0, i)).sum();
            DUE.same("a new ROW in its stead", sum, 0);
        }
    }

    private static void lowestBits() {
        doc.terms("what is put in keeps its lowest bits (of booleans: whether it is not 0); told they are numbers (1, 0).");
        kept(0, 127, 127);
        kept(0, 128, -128);
        kept(0, -128, -128);
        kept(0, -129, 127);
        kept(0, 255, -1);
        kept(0, 256, 0);
        kept(0, 265, 9);
        kept(1, 32767, 32767);
        kept(1, 32768, -32768);
        kept(1, -32769, 32767);
        kept(1, 65535, -1);
        kept(1, 65536, 0);
        kept(2, Integer.MAX_VALUE, Integer.MAX_VALUE);
        kept(2, 1L << 31, Integer.MIN_VALUE);
        kept(2, Integer.MIN_VALUE - 1L, Integer.MAX_VALUE);
        kept(2, (1L << 32) - 1, -1);
        kept(2, 1L << 32, 0);
        kept(3, Long.MAX_VALUE, Long.MAX_VALUE);
        kept(3, Long.MIN_VALUE, Long.MIN_VALUE);
        kept(3, 1L << 32, 1L << 32);
        kept(4, 0, 0);
        kept(4, 1, 1);
        kept(4, 2, 1);
        kept(4, -1, 1);
        kept(4, 256, 1);
        kept(4, 1L << 32, 1);
        kept(4, Long.MIN_VALUE, 1);
    }

    private static void kept(int sort, long put, long want) {
        SoupOrHorses x = new SoupOrHorses();
        x.row(3, sort, 2);
        x.set(3, 1, put);
        DUE.same("SORT " + sort + ", put in " + put, x.element(3, 1), want);
        DUE.same("SORT " + sort + ", the other place", x.element(3, 0), 0);
    }

    private static void refusalsChangeNothing() {
        doc.terms("nothing changes but how many there were");
        Scene.refuses(DUE, "BAD", Scene.BAD, BoundaryTermsTest::whole, x -> x.row(0, 0, 41));
        Scene.refuses(DUE, "OTHER", Scene.OTHER, BoundaryTermsTest::whole, x -> x.set(2, 0, 1));
        Scene.refuses(DUE, "NOTHING", Scene.NOTHING, BoundaryTermsTest::whole, x -> x.set(3, 0, 1));
        Scene.refuses(DUE, "STUCK", Scene.STUCK, BoundaryTermsTest::whole, x -> x.back());
        Scene.refuses(DUE, "FULL", Scene.FULL, () -> Scene.camp("ear 0 0;ear 0 0;ear 0 0;ear 0 0;ear 0 0;ear 0 0"),
            x -> x.ear(0, 0));
        SoupOrHorses y = new SoupOrHorses();
        for (int i = 1; i <= 300; i++) {
            y.drop();
        }
        DUE.same("300 of one", y.status(15), 300);
        DUE.same("none of the others", y.status(12) + y.status(13) + y.status(14) + y.status(16), 0);
    }
}
