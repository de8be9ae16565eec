import java.util.function.ToLongFunction;

/** The sentences of promises 1 to 19 that name a boundary, each with a test of its own. */
public final class BoundaryPromises1To19Test {
    private static final Due DUE = new Due();
    private static final int MIN = Integer.MIN_VALUE;
    private static final int MAX = Integer.MAX_VALUE;
    private static Doc doc;

    public static void main(String[] args) throws Exception {
        doc = new Doc(DUE);
        promise1Nothing();
        promise2New();
        promise2Bad();
        promise3Refuses();
        promise4Counts();
        promise4AsTheyWere();
        promise4OtherSorts();
        promise4Refuses();
        promise4BadOthers();
        promise5None();
        promise6NoShelf();
        promise7None();
        promise7Bad();
        promise8Of8Notes();
        promise8Other();
        promise8Refuses();
        promise9Numbers();
        promise9Refuses();
        promise9Full();
        promise10Refuses();
        promise11Refuses();
        promise12WhatItWas();
        promise12Bad();
        promise13WhatItWas();
        promise13Bad();
        promise14Size();
        promise14Refuses();
        promise15SizeAhead();
        promise16Counted();
        promise16EmptyEitherWay();
        promise17Bad();
        promise18Bad();
        promise19Bad();
        doc.end(1, 19);
    }

    /** SHELF 0 a ROW of 3 ints, 1 one of 2 bytes, 2 an EAR, 3 a ROW of 5 ints, 7 one of none; the others NOTHING. */
    private static SoupOrHorses whole() {
        SoupOrHorses x = Scene.camp("call abc 30 10;call e 99 0;ear 3 7;ear 5 9;man 0 0;man 1 1");
        Scene.put(x, 0, 4, 5, 3);
        Scene.put(x, 3, 0, 1, 2, 3, 4);
        x.row(1, 0, 2);
        x.row(7, 2, 0);
        x.show(2, 1);
        return x;
    }

    private static void refuses(String what, int want, ToLongFunction<SoupOrHorses> call) {
        Scene.refuses(DUE, what, want, BoundaryPromises1To19Test::whole, call);
    }

    private static void promise1Nothing() {
        doc.promise(1, "No CALLS, EARS, MEN; SHELVES hold NOTHING; THE TAPE is empty.");
        SoupOrHorses used = whole();
        used.image();
        SoupOrHorses x = new SoupOrHorses();
        DUE.same("CALLS, EARS, MEN", x.status(0) + x.status(1) + x.status(2), 0);
        for (int s = 0; s < 8; s++) {
            DUE.same("SHELF " + s, x.holds(s), -1);
        }
        DUE.same("SHELVES that hold something", x.status(9), 0);
        DUE.same("THE TAPE's size", x.status(7), 0);
        DUE.same("no REFUSALS", x.status(12) + x.status(13) + x.status(14) + x.status(15) + x.status(16), 0);
        DUE.same("nothing is kept", x.back(), Scene.STUCK);
    }

    private static void promise2New() {
        doc.promise(2, "SHELF s holds a new ROW: 1.");
        SoupOrHorses x = whole();
        DUE.same("for a ROW", x.row(0, 2, 3), 1);
        DUE.same("its elements", x.element(0, 0) + x.element(0, 1) + x.element(0, 2), 0);
        DUE.same("of another SORT", x.row(0, 4, 1), 1);
        DUE.same("of another SORT: holds", x.holds(0), 4);
        DUE.same("of another SORT: no second element", x.set(0, 1, 1), Scene.BAD);
        DUE.same("for an EAR", x.row(2, 0, 40), 1);
        DUE.same("for an EAR: holds", x.holds(2), 0);
        DUE.same("for NOTHING", x.row(6, 3, 0), 1);
        DUE.same("for NOTHING: holds", x.holds(6), 3);
    }

    private static void promise2Bad() {
        doc.promise(2, "BAD.");
        int[][] bad = {{-1, 0, 0}, {8, 0, 0}, {MIN, 0, 0}, {MAX, 0, 0}, {0, -1, 0}, {0, 5, 0}, {0, MIN, 0}, {0, MAX, 0},
            {0, 0, -1}, {0, 0, 41}, {0, 0, MIN}, {0, 0, MAX}, {0, 10, 1}};
        for (int[] v : bad) {
            refuses("row(" + v[0] + ", " + v[1] + ", " + v[2] + ")", Scene.BAD, x -> x.row(v[0], v[1], v[2]));
        }
        SoupOrHorses x = whole();
        DUE.same("the least of all", x.row(0, 0, 0), 1);
        DUE.same("the most of all", x.row(7, 4, 40), 1);
    }

    private static void promise3Refuses() {
        doc.promise(3, "BAD SHELF; OTHER; NOTHING; BAD i.");
        refuses("SHELF -1", Scene.BAD, x -> x.set(-1, 0, 1));
        refuses("SHELF 8", Scene.BAD, x -> x.set(8, 0, 1));
        refuses("an EAR, i 0", Scene.OTHER, x -> x.set(2, 0, 1));
        refuses("an EAR, i -1", Scene.OTHER, x -> x.set(2, -1, 1));
        refuses("NOTHING, i 0", Scene.NOTHING, x -> x.set(4, 0, 1));
        refuses("NOTHING, i 40", Scene.NOTHING, x -> x.set(4, 40, 1));
        refuses("i -1", Scene.BAD, x -> x.set(0, -1, 1));
        refuses("i 3 of 3", Scene.BAD, x -> x.set(0, 3, 1));
        refuses("i MIN", Scene.BAD, x -> x.set(0, MIN, 1));
        refuses("i MAX", Scene.BAD, x -> x.set(0, MAX, 1));
        refuses("i 0 of none", Scene.BAD, x -> x.set(7, 0, 1));
        SoupOrHorses x = whole();
        DUE.same("the first", x.set(0, 0, 7), 1);
        DUE.same("the last", x.set(0, 2, 8), 1);
        DUE.same("the elements", x.element(0, 0) * 100 + x.element(0, 1) * 10 + x.element(0, 2), 758);
    }

    private static void elements(String what, SoupOrHorses x, int s, int... want) {
        for (int i = 0; i < want.length; i++) {
            DUE.same(what + ": element " + i, x.element(s, i), want[i]);
        }
    }

    private static void promise4Counts() {
        doc.promise(4, "n elements of the ROW in SHELF p from place i on come to places j on of that in q");
        SoupOrHorses x = whole();
        DUE.same("all", x.copy(0, 3, 0, 0, 3), 3);
        elements("all", x, 3, 4, 5, 3, 3, 4);
        DUE.same("to the end", x.copy(0, 3, 0, 2, 3), 3);
        elements("to the end", x, 3, 4, 5, 4, 5, 3);
        DUE.same("the last", x.copy(0, 3, 2, 0, 1), 1);
        elements("the last", x, 3, 3, 5, 4, 5, 3);
        DUE.same("none", x.copy(0, 3, 0, 0, 0), 0);
        DUE.same("none of none", x.copy(7, 7, 0, 0, 0), 0);
        DUE.same("none, just behind both", x.copy(0, 3, 3, 5, 0), 0);
        elements("none", x, 3, 3, 5, 4, 5, 3);
        elements("from", x, 0, 4, 5, 3);
        SoupOrHorses y = new SoupOrHorses();
        y.row(0, 3, 40);
        y.row(1, 3, 40);
        y.set(0, 39, Long.MIN_VALUE);
        DUE.same("40", y.copy(0, 1, 0, 0, 40), 40);
        DUE.same("40: the last", y.element(1, 39), Long.MIN_VALUE);
    }

    private static void promise4AsTheyWere() {
        doc.promise(4, "(as they were)");
        SoupOrHorses x = whole();
        DUE.same("one place on", x.copy(3, 3, 0, 1, 4), 4);
        elements("one place on", x, 3, 0, 0, 1, 2, 3);
        SoupOrHorses y = whole();
        DUE.same("one place back", y.copy(3, 3, 1, 0, 4), 4);
        elements("one place back", y, 3, 1, 2, 3, 4, 4);
        DUE.same("onto itself", y.copy(3, 3, 0, 0, 5), 5);
        elements("onto itself", y, 3, 1, 2, 3, 4, 4);
    }

    private static void promise4OtherSorts() {
        doc.promise(4, "OTHER (also ROWS of two SORTS, if both hold something)");
        for (int p = 0; p < 5; p++) {
            for (int q = 0; q < 5; q++) {
                SoupOrHorses x = new SoupOrHorses();
                x.row(0, p, 1);
                x.row(1, q, 1);
                x.set(0, 0, 1);
                DUE.same("SORT " + p + " to " + q, x.copy(0, 1, 0, 0, 1), p == q ? 1 : Scene.OTHER);
                DUE.same("SORT " + p + " to " + q + ": element", x.element(1, 0), p == q ? 1 : 0);
            }
        }
        refuses("two SORTS, n 0", Scene.OTHER, x -> x.copy(0, 1, 0, 0, 0));
        refuses("two SORTS, i -1", Scene.OTHER, x -> x.copy(1, 0, -1, 0, 1));
        refuses("one holds NOTHING", Scene.NOTHING, x -> x.copy(1, 4, 0, 0, 0));
    }

    private static void promise4Refuses() {
        doc.promise(4, "BAD SHELVES; OTHER (also ROWS of two SORTS, if both hold something); NOTHING; BAD the others.");
        refuses("p -1, q an EAR", Scene.BAD, x -> x.copy(-1, 2, 0, 0, 1));
        refuses("p an EAR, q 8", Scene.BAD, x -> x.copy(2, 8, 0, 0, 1));
        refuses("p NOTHING, q -1", Scene.BAD, x -> x.copy(4, -1, 0, 0, 1));
        refuses("p 8, q 8", Scene.BAD, x -> x.copy(8, 8, 0, 0, 1));
        refuses("p an EAR, q NOTHING", Scene.OTHER, x -> x.copy(2, 4, 0, 0, 1));
        refuses("p NOTHING, q an EAR", Scene.OTHER, x -> x.copy(4, 2, 0, 0, 1));
        refuses("p an EAR, q a ROW", Scene.OTHER, x -> x.copy(2, 0, 0, 0, 1));
        refuses("p a ROW, q an EAR", Scene.OTHER, x -> x.copy(0, 2, 0, 0, 1));
        refuses("p an EAR, q it too", Scene.OTHER, x -> x.copy(2, 2, 0, 0, 0));
        refuses("p NOTHING, n -1", Scene.NOTHING, x -> x.copy(4, 0, 0, 0, -1));
        refuses("q NOTHING, j -1", Scene.NOTHING, x -> x.copy(0, 4, 0, -1, 1));
        refuses("p NOTHING, q it too", Scene.NOTHING, x -> x.copy(4, 4, 0, 0, 0));
    }

    private static void promise4BadOthers() {
        doc.promise(4, "BAD the others.");
        int[][] bad = {{-1, 0, 1}, {0, -1, 1}, {0, 0, -1}, {1, 0, 3}, {0, 3, 3}, {0, 0, 4}, {3, 0, 1}, {0, 5, 1},
            {4, 0, 0}, {0, 6, 0}, {-1, 0, 0}, {0, -1, 0}, {MIN, 0, 1}, {0, MIN, 1}, {0, 0, MIN}, {MAX, 0, 1}, {0, MAX, 1},
            {0, 0, MAX}, {MAX, MAX, MAX}, {1, 1, MAX}, {MAX, 0, 2}, {MIN, MIN, MIN}, {2, 2, -2}};
        for (int[] v : bad) {
            refuses("from " + v[0] + " to " + v[1] + ", " + v[2], Scene.BAD, x -> x.copy(0, 3, v[0], v[1], v[2]));
        }
        refuses("more than q has", Scene.BAD, x -> x.copy(3, 0, 0, 0, 4));
        refuses("one of none", Scene.BAD, x -> x.copy(7, 0, 0, 0, 1));
    }

    private static void promise5None() {
        doc.promise(5, "0: none, no ROW (nothing is refused).");
        SoupOrHorses x = whole();
        int[][] none = {{0, -1}, {0, 3}, {0, MIN}, {0, MAX}, {7, 0}, {2, 0}, {4, 0}, {-1, 0}, {8, 0}, {MIN, 0}, {MAX, 0}};
        for (int[] v : none) {
            DUE.same("element(" + v[0] + ", " + v[1] + ")", x.element(v[0], v[1]), 0);
        }
        DUE.same("the first", x.element(0, 0), 4);
        DUE.same("the last", x.element(0, 2), 3);
        DUE.same("REFUSALS", x.status(12) + x.status(13) + x.status(14), 0);
        x.show(0, 0);
        DUE.same("an EAR where a ROW was", x.element(0, 0), 0);
        x.show(3, -1);
        DUE.same("NOTHING where a ROW was", x.element(3, 4), 0);
    }

    private static void promise6NoShelf() {
        doc.promise(6, "What SHELF s holds: NONE NOTHING, no SHELF; 0 to 4 a ROW by its SORT; 10 and the number of an EAR.");
        SoupOrHorses x = Scene.camp("ear 0 0;ear 0 0;ear 0 0;ear 0 0;ear 0 0;ear 0 0");
        int[] none = {-1, 8, MIN, MAX, 0, 7};
        for (int s : none) {
            DUE.same("holds(" + s + ")", x.holds(s), -1);
        }
        for (int sort = 0; sort < 5; sort++) {
            x.row(0, sort, 0);
            DUE.same("SORT " + sort, x.holds(0), sort);
        }
        for (int ear = 0; ear < 6; ear++) {
            x.show(0, ear);
            DUE.same("EAR " + ear, x.holds(0), 10 + ear);
        }
        DUE.same("REFUSALS", x.status(12), 0);
    }

    private static void promise7None() {
        doc.promise(7, "SHELF s holds an EAR, or NOTHING (ear NONE): 1.");
        SoupOrHorses x = whole();
        DUE.same("an EAR for NOTHING", x.show(4, 0) * 100 + x.holds(4), 110);
        DUE.same("an EAR for an EAR", x.show(4, 1) * 100 + x.holds(4), 111);
        DUE.same("an EAR for a ROW", x.show(0, 1) * 100 + x.holds(0), 111);
        DUE.same("NOTHING for an EAR", x.show(4, -1) * 100 + x.holds(4), 99);
        DUE.same("NOTHING for a ROW", x.show(3, -1) * 100 + x.holds(3), 99);
        DUE.same("NOTHING for NOTHING", x.show(5, -1) * 100 + x.holds(5), 99);
        DUE.same("NOTHING, no EARS", new SoupOrHorses().show(7, -1), 1);
    }

    private static void promise7Bad() {
        doc.promise(7, "BAD.");
        int[][] bad = {{-1, 0}, {8, 0}, {-1, -1}, {8, -1}, {MIN, 0}, {MAX, 0}, {0, -2}, {0, 2}, {0, MIN}, {0, MAX}};
        for (int[] v : bad) {
            refuses("show(" + v[0] + ", " + v[1] + ")", Scene.BAD, x -> x.show(v[0], v[1]));
        }
        Scene.refuses(DUE, "EAR 0 of none", Scene.BAD, SoupOrHorses::new, x -> x.show(0, 0));
    }

    private static void says(int kind, int a, int takenFor, int want) {
        SoupOrHorses x = new SoupOrHorses();
        x.ear(kind, a);
        x.show(7, 0);
        DUE.same("KIND " + kind + ", a " + a + ", taken for " + takenFor, x.says(7, takenFor), want);
    }

    private static void promise8Of8Notes() {
        doc.promise(8, "TORN, LATE how many of 8 NOTES would be GONE");
        for (int a = 0; a < 10; a++) {
            says(1, a, 1, Math.min(a, 8));
            says(3, a, 3, Math.min(a + 1, 8));
            says(3, a, 1, Math.min(a + 1, 8));
            says(1, a, 0, a);
            says(3, a, 0, a);
            says(2, a, 2, 3);
            says(4, a, 4, 3);
        }
        int[] echoed = {7, 4, 2, 2, 1, 1, 1, 1, 0, 0};
        for (int a = 0; a < 10; a++) {
            says(5, a, 5, echoed[a]);
        }
    }

    private static void promise8Other() {
        doc.promise(8, "OTHER (also if it is of no such KIND nor of one under it)");
        boolean[][] isOne = {
            {true, false, false, false, false, false},
            {true, true, false, false, false, false},
            {true, false, true, false, false, false},
            {true, true, false, true, false, false},
            {true, false, true, false, true, false},
            {true, false, false, false, false, true}};
        for (int kind = 0; kind < 6; kind++) {
            for (int takenFor = 0; takenFor < 6; takenFor++) {
                SoupOrHorses x = new SoupOrHorses();
                x.ear(kind, 1);
                x.show(0, 0);
                DUE.same("KIND " + kind + " taken for " + takenFor + " is refused",
                    x.says(0, takenFor) == Scene.OTHER ? 1 : 0, isOne[kind][takenFor] ? 0 : 1);
                DUE.same("KIND " + kind + " taken for " + takenFor + ": OTHERS", x.status(13),
                    isOne[kind][takenFor] ? 0 : 1);
            }
        }
    }

    private static void promise8Refuses() {
        doc.promise(8, "BAD SHELF, KIND; OTHER (also if it is of no such KIND nor of one under it); NOTHING.");
        refuses("SHELF -1", Scene.BAD, x -> x.says(-1, 0));
        refuses("SHELF 8", Scene.BAD, x -> x.says(8, 0));
        refuses("a ROW, KIND -1", Scene.BAD, x -> x.says(0, -1));
        refuses("NOTHING, KIND 6", Scene.BAD, x -> x.says(4, 6));
        refuses("an EAR, KIND MAX", Scene.BAD, x -> x.says(2, MAX));
        refuses("a ROW", Scene.OTHER, x -> x.says(0, 0));
        refuses("a ROW of none", Scene.OTHER, x -> x.says(7, 5));
        refuses("ECHO for LATE", Scene.OTHER, x -> x.says(2, 3));
        refuses("NOTHING", Scene.NOTHING, x -> x.says(4, 0));
        refuses("NOTHING for ECHO", Scene.NOTHING, x -> x.says(4, 5));
    }

    private static void promise9Numbers() {
        doc.promise(9, "A CALL of the first n elements (1 to 8) of the ROW in SHELF s: the number.");
        SoupOrHorses x = whole();
        DUE.same("the first 5 of 5", x.call(3, 5, 1, 0), 2);
        DUE.same("the first of 5", x.call(3, 1, 1, 0), 3);
        DUE.same("the first of 3, ahead of one that is no NOTE", x.call(0, 1, 1, 0), 4);
        DUE.same("how many NOTES", x.callOf(2, 0) * 100 + x.callOf(3, 0) * 10 + x.callOf(4, 0), 511);
        DUE.same("the last NOTE of 5", x.callOf(2, 14), 4);
        x.row(5, 3, 40);
        DUE.same("8 of 40", x.call(5, 8, 1, 0), 5);
    }

    private static void promise9Refuses() {
        doc.promise(9, "BAD SHELF, n, use, cost; OTHER; NOTHING; BAD: fewer elements, one that is no NOTE; FULL.");
        refuses("SHELF -1", Scene.BAD, x -> x.call(-1, 1, 1, 0));
        refuses("SHELF 8", Scene.BAD, x -> x.call(8, 1, 1, 0));
        int[][] bad = {{0, 1, 0}, {9, 1, 0}, {-1, 1, 0}, {MIN, 1, 0}, {MAX, 1, 0}, {1, 0, 0}, {1, 100, 0}, {1, MIN, 0},
            {1, MAX, 0}, {1, 1, -1}, {1, 1, 100}, {1, 1, MIN}, {1, 1, MAX}};
        for (int[] v : bad) {
            String what = "n " + v[0] + ", use " + v[1] + ", cost " + v[2];
            refuses("a ROW, " + what, Scene.BAD, x -> x.call(3, v[0], v[1], v[2]));
            refuses("an EAR, " + what, Scene.BAD, x -> x.call(2, v[0], v[1], v[2]));
            refuses("NOTHING, " + what, Scene.BAD, x -> x.call(4, v[0], v[1], v[2]));
        }
        refuses("an EAR", Scene.OTHER, x -> x.call(2, 8, 1, 0));
        refuses("NOTHING", Scene.NOTHING, x -> x.call(4, 8, 1, 0));
        refuses("6 of 5", Scene.BAD, x -> x.call(3, 6, 1, 0));
        refuses("1 of none", Scene.BAD, x -> x.call(7, 1, 1, 0));
        refuses("no NOTE at the end", Scene.BAD, x -> x.call(0, 2, 1, 0));
        refuses("no NOTE within", Scene.BAD, x -> x.call(0, 3, 1, 0));
    }

    private static SoupOrHorses full() {
        SoupOrHorses x = Scene.camp("call abc 1 1" + ";call abc 1 1".repeat(11));
        Scene.read(x, "ear 0 0" + ";ear 0 0".repeat(5) + ";man 0 0".repeat(8));
        Scene.put(x, 0, 4, 5, 3);
        x.show(2, 1);
        return x;
    }

    private static void promise9Full() {
        doc.promise(9, "FULL.");
        Scene.refuses(DUE, "a 13th", Scene.FULL, BoundaryPromises1To19Test::full, x -> x.call(0, 1, 1, 0));
        Scene.refuses(DUE, "a 13th, cost 100", Scene.BAD, BoundaryPromises1To19Test::full, x -> x.call(0, 1, 1, 100));
        Scene.refuses(DUE, "a 13th of an EAR", Scene.OTHER, BoundaryPromises1To19Test::full, x -> x.call(2, 1, 1, 0));
        Scene.refuses(DUE, "a 13th of NOTHING", Scene.NOTHING, BoundaryPromises1To19Test::full, x -> x.call(4, 1, 1, 0));
        Scene.refuses(DUE, "a 13th of fewer", Scene.BAD, BoundaryPromises1To19Test::full, x -> x.call(0, 4, 1, 0));
        Scene.refuses(DUE, "a 13th of no NOTE", Scene.BAD, BoundaryPromises1To19Test::full, x -> x.call(0, 2, 1, 0));
    }

    private static void promise10Refuses() {
        doc.promise(10, "An EAR: the number. BAD; FULL.");
        int[][] bad = {{-1, 0}, {6, 0}, {MIN, 0}, {MAX, 0}, {0, -1}, {0, 10}, {0, MIN}, {0, MAX}};
        for (int[] v : bad) {
            refuses("ear(" + v[0] + ", " + v[1] + ")", Scene.BAD, x -> x.ear(v[0], v[1]));
            Scene.refuses(DUE, "a 7th: ear(" + v[0] + ", " + v[1] + ")", Scene.BAD, BoundaryPromises1To19Test::full,
                x -> x.ear(v[0], v[1]));
        }
        Scene.refuses(DUE, "a 7th", Scene.FULL, BoundaryPromises1To19Test::full, x -> x.ear(5, 9));
        SoupOrHorses x = whole();
        DUE.same("the most of all", x.ear(5, 9), 2);
        DUE.same("the least of all", x.ear(0, 0), 3);
    }

    private static void promise11Refuses() {
        doc.promise(11, "A man: the number. BAD; FULL.");
        int[][] bad = {{-1, 0}, {6, 0}, {MIN, 0}, {MAX, 0}, {0, -1}, {0, 2}, {0, MIN}, {0, MAX}};
        for (int[] v : bad) {
            refuses("man(" + v[0] + ", " + v[1] + ")", Scene.BAD, x -> x.man(v[0], v[1]));
            Scene.refuses(DUE, "a 9th: man(" + v[0] + ", " + v[1] + ")", Scene.BAD, BoundaryPromises1To19Test::full,
                x -> x.man(v[0], v[1]));
        }
        refuses("EAR 2 of two", Scene.BAD, x -> x.man(2, 0));
        Scene.refuses(DUE, "a 9th", Scene.FULL, BoundaryPromises1To19Test::full, x -> x.man(5, 1));
        SoupOrHorses x = whole();
        DUE.same("the most of all", x.man(1, 1), 2);
        DUE.same("the least of all", x.man(0, 0), 3);
    }

    private static void promise12WhatItWas() {
        doc.promise(12, "USE (what 0), COST (1) of a CALL becomes v: what it was.");
        SoupOrHorses x = whole();
        DUE.same("the most USE", x.tell(0, 0, 99), 30);
        DUE.same("the least USE", x.tell(0, 0, 1), 99);
        DUE.same("the most COST", x.tell(0, 1, 99), 10);
        DUE.same("the least COST", x.tell(0, 1, 0), 99);
        DUE.same("the same COST", x.tell(0, 1, 0), 0);
        DUE.same("the other CALL", x.callOf(1, 1) * 100 + x.callOf(1, 2), 9900);
        DUE.same("the last CALL", x.tell(1, 1, 5), 0);
    }

    private static void promise12Bad() {
        doc.promise(12, "BAD.");
        int[][] bad = {{-1, 0, 1}, {2, 0, 1}, {MIN, 0, 1}, {MAX, 0, 1}, {0, -1, 1}, {0, 2, 1}, {0, MIN, 1}, {0, MAX, 1},
            {0, 0, 0}, {0, 0, 100}, {0, 0, MIN}, {0, 0, MAX}, {0, 1, -1}, {0, 1, 100}, {0, 1, MIN}, {0, 1, MAX}};
        for (int[] v : bad) {
            refuses("tell(" + v[0] + ", " + v[1] + ", " + v[2] + ")", Scene.BAD, x -> x.tell(v[0], v[1], v[2]));
        }
    }

    private static void promise13WhatItWas() {
        doc.promise(13, "SURE (what 0), LOST (1) becomes v: what it was.");
        SoupOrHorses x = new SoupOrHorses();
        DUE.same("the least SURE", x.ask(0, 0), 600);
        DUE.same("the most SURE", x.ask(0, 1000), 0);
        DUE.same("the least LOST", x.ask(1, 0), 20);
        DUE.same("the most LOST", x.ask(1, 100), 0);
        DUE.same("the same LOST", x.ask(1, 100), 100);
        DUE.same("SURE, LOST", x.status(5) * 1000 + x.status(6), 1000100);
    }

    private static void promise13Bad() {
        doc.promise(13, "BAD.");
        int[][] bad = {{-1, 1}, {2, 1}, {MIN, 1}, {MAX, 1}, {0, -1}, {0, 1001}, {0, MIN}, {0, MAX}, {1, -1}, {1, 101},
            {1, MIN}, {1, MAX}};
        for (int[] v : bad) {
            refuses("ask(" + v[0] + ", " + v[1] + ")", Scene.BAD, x -> x.ask(v[0], v[1]));
        }
    }

    private static void promise14Size() {
        doc.promise(14, "THE TAPE gets one byte (0 to 255) behind it: its size.");
        SoupOrHorses x = new SoupOrHorses();
        DUE.same("0", x.feed(0), 1);
        DUE.same("255", x.feed(255), 2);
        for (int size = 3; size <= 250; size++) {
            DUE.same("one byte more", x.feed(' '), size);
        }
    }

    private static void promise14Refuses() {
        doc.promise(14, "BAD; FULL.");
        int[] bad = {-1, 256, MIN, MAX, 'a' - 256};
        for (int letter : bad) {
            refuses("feed(" + letter + ")", Scene.BAD, x -> x.feed(letter));
            Scene.refuses(DUE, "the 251st: feed(" + letter + ")", Scene.BAD, BoundaryPromises1To19Test::fed,
                x -> x.feed(letter));
        }
        Scene.refuses(DUE, "the 251st", Scene.FULL, BoundaryPromises1To19Test::fed, x -> x.feed('a'));
        SoupOrHorses x = fed();
        x.feed('!');
        DUE.same("the 251st isn't there", x.camp(), 1);
    }

    private static SoupOrHorses fed() {
        SoupOrHorses x = new SoupOrHorses();
        Scene.feed(x, "sure 5" + " ".repeat(244));
        return x;
    }

    private static void promise15SizeAhead() {
        doc.promise(15, "THE TAPE is empty: its size ahead.");
        SoupOrHorses x = new SoupOrHorses();
        DUE.same("of none", x.wipe(), 0);
        x.feed(0);
        DUE.same("of one", x.wipe(), 1);
        DUE.same("of none again", x.wipe(), 0);
        SoupOrHorses y = fed();
        DUE.same("of a full one", y.wipe(), 250);
        DUE.same("size", y.status(7), 0);
        DUE.same("one byte", y.feed('a'), 1);
        DUE.same("what stood there is gone", y.camp(), -20);
    }

    private static void promise16Counted() {
        doc.promise(16, "how many STATEMENTS; -20 less the FAULT (that is refused, too: BAD)");
        SoupOrHorses x = new SoupOrHorses();
        DUE.same("the empty TAPE", x.camp(), -20);
        DUE.same("one BAD", x.status(12), 1);
        DUE.same("the FAULT behind a full TAPE", Scene.read(x, " ".repeat(250)), -270);
        DUE.same("two BAD", x.status(12), 2);
        DUE.same("a CAMP", Scene.read(x, "sure 5"), 1);
        DUE.same("two BAD still", x.status(12), 2);
        DUE.same("no others", x.status(13) + x.status(14) + x.status(15) + x.status(16), 0);
    }

    private static void promise16EmptyEitherWay() {
        doc.promise(16, "THE TAPE is empty then, either way.");
        SoupOrHorses x = new SoupOrHorses();
        DUE.same("a CAMP", Scene.read(x, "sure 5;lost 6"), 2);
        DUE.same("its TAPE", x.status(7), 0);
        DUE.same("the empty TAPE", x.camp(), -20);
        DUE.same("no CAMP", Scene.read(x, "sure 5;lost"), -31);
        DUE.same("no CAMP: its TAPE", x.status(7), 0);
        Scene.feed(x, " 7");
        DUE.same("what comes behind isn't read with it", x.camp(), -21);
        DUE.same("LOST", x.status(6), 6);
    }

    private static void promise17Bad() {
        doc.promise(17, "Of a CALL: how many NOTES (0), USE (1), COST (2), the i-th NOTE (10 and i). BAD.");
        int[][] bad = {{-1, 0}, {2, 0}, {MIN, 0}, {MAX, 0}, {0, -1}, {0, 3}, {0, 9}, {0, 13}, {1, 11}, {0, MIN}, {0, MAX},
            {0, MIN + 10}, {0, MIN + 9}};
        for (int[] v : bad) {
            refuses("callOf(" + v[0] + ", " + v[1] + ")", Scene.BAD, x -> x.callOf(v[0], v[1]));
        }
        SoupOrHorses x = whole();
        DUE.same("the first NOTE", x.callOf(0, 10), 0);
        DUE.same("the last NOTE", x.callOf(0, 12), 2);
        DUE.same("the only NOTE", x.callOf(1, 10), 4);
        SoupOrHorses y = Scene.camp("call abcdeabc 1 1");
        DUE.same("the last of 8", y.callOf(0, 17), 2);
        DUE.same("behind 8", y.callOf(0, 18), Scene.BAD);
    }

    private static void promise18Bad() {
        doc.promise(18, "Of an EAR: KIND (0), a (1). BAD.");
        int[][] bad = {{-1, 0}, {2, 0}, {MIN, 0}, {MAX, 0}, {0, -1}, {0, 2}, {0, MIN}, {0, MAX}};
        for (int[] v : bad) {
            refuses("earOf(" + v[0] + ", " + v[1] + ")", Scene.BAD, x -> x.earOf(v[0], v[1]));
        }
        SoupOrHorses x = whole();
        DUE.same("the first", x.earOf(0, 0) * 10 + x.earOf(0, 1), 37);
        DUE.same("the last", x.earOf(1, 0) * 10 + x.earOf(1, 1), 59);
    }

    private static void promise19Bad() {
        doc.promise(19, "Of a man: his EAR (0), LOOK (1). BAD.");
        int[][] bad = {{-1, 0}, {2, 0}, {MIN, 0}, {MAX, 0}, {0, -1}, {0, 2}, {0, MIN}, {0, MAX}};
        for (int[] v : bad) {
            refuses("manOf(" + v[0] + ", " + v[1] + ")", Scene.BAD, x -> x.manOf(v[0], v[1]));
        }
        SoupOrHorses x = Scene.camp("ear 0 0;ear 0 0;man 0 1;man 1 0");
        DUE.same("the first", x.manOf(0, 0) * 10 + x.manOf(0, 1), 1);
        DUE.same("the last", x.manOf(1, 0) * 10 + x.manOf(1, 1), 10);
    }
}
