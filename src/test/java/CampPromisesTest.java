/** Promises 9 to 19: what the CAMP is made of, and what is told of it. */
public final class CampPromisesTest {
    private static final Due DUE = new Due();

    public static void main(String[] args) {
        promise9();
        promise9Refuses();
        promise10();
        promise11();
        promise12();
        promise13();
        promise14();
        promise15();
        promise16();
        promise16Faults();
        promise16Rooms();
        promise16AllOrNothing();
        promise17();
        promise18();
        promise19();
        DUE.end();
    }

    private static void promise9() {
        SoupOrHorses x = new SoupOrHorses();
        Scene.put(x, 0, 4, 3, 2, 1, 0, 1, 2, 3, 7);
        DUE.same("call of 8", x.call(0, 8, 99, 99), 0);
        DUE.same("call of 1", x.call(0, 1, 1, 0), 1);
        int[] notes = {4, 3, 2, 1, 0, 1, 2, 3};
        for (int i = 0; i < 8; i++) {
            DUE.same("call: NOTE", x.callOf(0, 10 + i), notes[i]);
        }
        DUE.same("call: size", x.callOf(0, 0) * 10 + x.callOf(1, 0), 81);
        DUE.same("call: USES", x.callOf(0, 1) * 100 + x.callOf(1, 1), 9901);
        DUE.same("call: COSTS", x.callOf(0, 2) * 100 + x.callOf(1, 2), 9900);
        x.set(0, 0, 1);
        DUE.same("call keeps its NOTES", x.callOf(0, 10), 4);
        x.row(1, 4, 2);
        x.set(1, 1, 5);
        DUE.same("call of booleans", x.call(1, 2, 5, 5), 2);
        DUE.same("call of booleans: NOTES", x.callOf(2, 10) * 10 + x.callOf(2, 11), 1);
    }

    private static void promise9Refuses() {
        SoupOrHorses x = new SoupOrHorses();
        x.ear(0, 0);
        x.show(1, 0);
        x.row(0, 3, 9);
        Scene.refused(DUE, x, "call(-1)", Scene.BAD, () -> x.call(-1, 1, 1, 1));
        Scene.refused(DUE, x, "call(8)", Scene.BAD, () -> x.call(8, 1, 1, 1));
        Scene.refused(DUE, x, "call n 0", Scene.BAD, () -> x.call(1, 0, 1, 1));
        Scene.refused(DUE, x, "call n 9", Scene.BAD, () -> x.call(1, 9, 1, 1));
        Scene.refused(DUE, x, "call use 0", Scene.BAD, () -> x.call(1, 1, 0, 1));
        Scene.refused(DUE, x, "call use 100", Scene.BAD, () -> x.call(2, 1, 100, 1));
        Scene.refused(DUE, x, "call cost -1", Scene.BAD, () -> x.call(2, 1, 1, -1));
        Scene.refused(DUE, x, "call cost 100", Scene.BAD, () -> x.call(2, 1, 1, 100));
        Scene.refused(DUE, x, "call of an EAR", Scene.OTHER, () -> x.call(1, 1, 1, 1));
        Scene.refused(DUE, x, "call of NOTHING", Scene.NOTHING, () -> x.call(2, 1, 1, 1));
        x.row(3, 0, 2);
        Scene.refused(DUE, x, "call of fewer", Scene.BAD, () -> x.call(3, 3, 1, 1));
        x.set(0, 0, 5);
        Scene.refused(DUE, x, "call, its first no NOTE", Scene.BAD, () -> x.call(0, 2, 1, 1));
        x.set(0, 0, 0);
        long[] noNotes = {5, 9, -1, 1L << 32};
        for (long v : noNotes) {
            x.set(0, 2, v);
            Scene.refused(DUE, x, "call with " + v, Scene.BAD, () -> x.call(0, 3, 1, 1));
        }
        for (int i = 0; i < 12; i++) {
            DUE.same("call ahead of the one that is no NOTE", x.call(0, 2, 1, 1), i);
        }
        Scene.refused(DUE, x, "call, FULL", Scene.FULL, () -> x.call(0, 2, 1, 1));
        Scene.refused(DUE, x, "call, BAD ahead of FULL", Scene.BAD, () -> x.call(0, 3, 1, 1));
    }

    private static void promise10() {
        SoupOrHorses x = new SoupOrHorses();
        for (int i = 0; i < 6; i++) {
            DUE.same("ear", x.ear(i, i == 0 ? 9 : i), i);
        }
        DUE.same("ear: KIND, a", x.earOf(0, 0) * 10 + x.earOf(0, 1), 9);
        Scene.refused(DUE, x, "ear(-1, 0)", Scene.BAD, () -> x.ear(-1, 0));
        Scene.refused(DUE, x, "ear(6, 0)", Scene.BAD, () -> x.ear(6, 0));
        Scene.refused(DUE, x, "ear(0, -1)", Scene.BAD, () -> x.ear(0, -1));
        Scene.refused(DUE, x, "ear(0, 10)", Scene.BAD, () -> x.ear(0, 10));
        Scene.refused(DUE, x, "ear, FULL", Scene.FULL, () -> x.ear(0, 0));
    }

    private static void promise11() {
        SoupOrHorses x = Scene.camp("ear 0 0;ear 1 1");
        for (int i = 0; i < 8; i++) {
            DUE.same("man", x.man(i % 2, i / 2 % 2), i);
        }
        DUE.same("man: EAR, LOOK", x.manOf(6, 0) * 10 + x.manOf(6, 1), 1);
        DUE.same("man: EAR, LOOK", x.manOf(5, 0) * 10 + x.manOf(5, 1), 10);
        Scene.refused(DUE, x, "man(-1, 0)", Scene.BAD, () -> x.man(-1, 0));
        Scene.refused(DUE, x, "man(2, 0)", Scene.BAD, () -> x.man(2, 0));
        Scene.refused(DUE, x, "man(0, -1)", Scene.BAD, () -> x.man(0, -1));
        Scene.refused(DUE, x, "man(0, 2)", Scene.BAD, () -> x.man(0, 2));
        Scene.refused(DUE, x, "man, FULL", Scene.FULL, () -> x.man(0, 0));
    }

    private static void promise12() {
        SoupOrHorses x = Scene.camp("call a 30 40;call b 50 60");
        DUE.same("tell USE", x.tell(1, 0, 99), 50);
        DUE.same("tell USE again", x.tell(1, 0, 1), 99);
        DUE.same("tell COST", x.tell(1, 1, 99), 60);
        DUE.same("tell COST again", x.tell(1, 1, 0), 99);
        DUE.same("tell: USE", x.callOf(1, 1), 1);
        DUE.same("tell: COST", x.callOf(1, 2), 0);
        DUE.same("tell leaves the other", x.callOf(0, 1) * 100 + x.callOf(0, 2), 3040);
        Scene.refused(DUE, x, "tell(-1)", Scene.BAD, () -> x.tell(-1, 0, 1));
        Scene.refused(DUE, x, "tell(2)", Scene.BAD, () -> x.tell(2, 0, 1));
        Scene.refused(DUE, x, "tell what -1", Scene.BAD, () -> x.tell(0, -1, 1));
        Scene.refused(DUE, x, "tell what 2", Scene.BAD, () -> x.tell(0, 2, 1));
        Scene.refused(DUE, x, "tell USE 0", Scene.BAD, () -> x.tell(0, 0, 0));
        Scene.refused(DUE, x, "tell USE 100", Scene.BAD, () -> x.tell(0, 0, 100));
        Scene.refused(DUE, x, "tell COST -1", Scene.BAD, () -> x.tell(0, 1, -1));
        Scene.refused(DUE, x, "tell COST 100", Scene.BAD, () -> x.tell(0, 1, 100));
    }

    private static void promise13() {
        SoupOrHorses x = new SoupOrHorses();
        DUE.same("ask SURE", x.ask(0, 1000), 600);
        DUE.same("ask SURE again", x.ask(0, 0), 1000);
        DUE.same("ask LOST", x.ask(1, 100), 20);
        DUE.same("ask LOST again", x.ask(1, 0), 100);
        DUE.same("ask: SURE and LOST", x.status(5) + x.status(6), 0);
        Scene.refused(DUE, x, "ask what -1", Scene.BAD, () -> x.ask(-1, 1));
        Scene.refused(DUE, x, "ask what 2", Scene.BAD, () -> x.ask(2, 1));
        Scene.refused(DUE, x, "ask SURE -1", Scene.BAD, () -> x.ask(0, -1));
        Scene.refused(DUE, x, "ask SURE 1001", Scene.BAD, () -> x.ask(0, 1001));
        Scene.refused(DUE, x, "ask LOST -1", Scene.BAD, () -> x.ask(1, -1));
        Scene.refused(DUE, x, "ask LOST 101", Scene.BAD, () -> x.ask(1, 101));
    }

    private static void promise14() {
        SoupOrHorses x = new SoupOrHorses();
        DUE.same("feed 0", x.feed(0), 1);
        DUE.same("feed 255", x.feed(255), 2);
        Scene.refused(DUE, x, "feed -1", Scene.BAD, () -> x.feed(-1));
        Scene.refused(DUE, x, "feed 256", Scene.BAD, () -> x.feed(256));
        for (int size = 3; size <= 250; size++) {
            DUE.same("feed", x.feed('a'), size);
        }
        Scene.refused(DUE, x, "feed, FULL", Scene.FULL, () -> x.feed('a'));
        Scene.refused(DUE, x, "feed, BAD ahead of FULL", Scene.BAD, () -> x.feed(256));
    }

    private static void promise15() {
        SoupOrHorses x = new SoupOrHorses();
        Scene.feed(x, "call a 1 1");
        DUE.same("wipe", x.wipe(), 10);
        DUE.same("wipe: size", x.status(7), 0);
        DUE.same("wipe again", x.wipe(), 0);
        Scene.feed(x, "sure 5");
        DUE.same("wipe forgets what was", x.camp(), 1);
    }

    private static void promise16() {
        SoupOrHorses x = new SoupOrHorses();
        int read = Scene.read(x,
            "call abcdeabc 99 0;  ear5 9 ;man 0 1;call e1 99;sure 0999; lost 0;use 1 0042");
        DUE.same("camp", read, 7);
        DUE.same("camp: THE TAPE", x.status(7), 0);
        DUE.same("camp: CALLS", x.status(0), 2);
        DUE.same("camp: size", x.callOf(0, 0), 8);
        for (int i = 0; i < 8; i++) {
            DUE.same("camp: NOTE", x.callOf(0, 10 + i), i % 5);
        }
        DUE.same("camp: USE, COST", x.callOf(0, 1) * 100 + x.callOf(0, 2), 9900);
        DUE.same("camp: CALL 1", x.callOf(1, 0) * 10 + x.callOf(1, 10), 14);
        DUE.same("camp: USE, COST 1", x.callOf(1, 1) * 100 + x.callOf(1, 2), 4299);
        DUE.same("camp: EAR", x.earOf(0, 0) * 10 + x.earOf(0, 1), 59);
        DUE.same("camp: man", x.manOf(0, 0) * 10 + x.manOf(0, 1), 1);
        DUE.same("camp: SURE", x.status(5), 999);
        DUE.same("camp: LOST", x.status(6), 0);
        DUE.same("camp adds to what there is", Scene.read(x, "call b 1 1;man 0 0"), 2);
        DUE.same("camp adds to what there is: CALLS", x.status(0), 3);
        DUE.same("camp adds to what there is: MEN", x.status(2), 2);
        DUE.same("camp: refused", x.status(12), 0);
        DUE.same("camp, blanks at both ends", Scene.read(x, "   lost 7   "), 1);
        DUE.same("camp, blanks at both ends: LOST", x.status(6), 7);
        DUE.same("camp, edges", Scene.read(x, "sure 1000;lost 100;use 0 1;ear 0 0"), 4);
        DUE.same("camp, edges: SURE, LOST", x.status(5) * 1000 + x.status(6), 1000100);
    }

    private static void promise16Faults() {
        fault("", 0);
        fault("   ", 3);
        fault("call", 4);
        fault("call ", 5);
        fault("call ab", 7);
        fault("call ab 1 ", 10);
        fault("call ab 1;", 9);
        fault("ear", 3);
        fault("ear 0", 5);
        fault("ear 0 0;man", 11);
        fault("ear 0 0;man 0", 13);
        fault("sure", 4);
        fault("lost", 4);
        fault("call a 1 1;use", 14);
        fault("call a 1 1;use 0", 16);
        fault("call ab 1 1;", 12);
        fault("call ab 1 1; ;", 13);
        fault(";sure 5", 0);
        fault(" Sure 5", 1);
        fault("sures 5", 0);
        fault("calla 5 5", 0);
        fault("ball a 5 5", 0);
        fault("far 0 0", 0);
        fault("z", 0);
        fault("call az 1 1", 5);
        fault("call aA 1 1", 6);
        fault("call {", 5);
        fault("call `", 5);
        fault("sure 5:", 6);
        fault("sure 5/", 6);
        fault("12 5", 0);
        fault("call f 1 1", 5);
        fault("call aaaaaaaaa 1 1", 5);
        fault("call 1 1 1", 5);
        fault("call ; 1 1", 5);
        fault("call a b 1", 7);
        fault("call a 0 1", 7);
        fault("call a 100 1", 7);
        fault("call a 00001 1", 7);
        fault("call a 1 100", 9);
        fault("call a 1 1 1", 11);
        fault("call a 1 1 sure 5", 11);
        fault("call a 1 1, sure 5", 10);
        fault("ear 6 0", 4);
        fault("ear 0 10", 6);
        fault("ear a 0", 4);
        fault("man 0 0", 4);
        fault("ear 0 0;man 1 0", 12);
        fault("ear 0 0;man 0 2", 14);
        fault("sure 1001", 5);
        fault("sure 12345", 5);
        fault("sure 99999999999999999999", 5);
        fault("sure -5", 5);
        fault("lost 101", 5);
        fault("lost a", 5);
        fault("use 0 5", 4);
        fault("call a 1 1;use 0 0", 17);
        fault("call a 1 1;use 0 100", 17);
        fault("call a 1 1;use 1 5", 15);
        fault("sure 5\n", 6);
        fault("sure 5;lost" + (char) 0 + "5", 11);
    }

    private static void fault(String text, int place) {
        SoupOrHorses x = new SoupOrHorses();
        Scene.feed(x, text);
        DUE.same("camp of '" + text + "'", x.camp(), -20 - place);
        int[] want = {0, 0, 0, 0, 0, 600, 20, 0, 1, 0, 0, -1, 1, 0, 0, 0, 0};
        for (int what = 0; what < want.length; what++) {
            DUE.same("camp of '" + text + "': status(" + what + ")", x.status(what), want[what]);
        }
    }

    /** What there is no room for has its FAULT at its word, whatever comes behind that. */
    private static void promise16Rooms() {
        SoupOrHorses x = new SoupOrHorses();
        StringBuilder calls = new StringBuilder("call a 1 1");
        for (int i = 1; i < 12; i++) {
            calls.append(";call a 1 1");
        }
        DUE.same("camp of 12 CALLS", Scene.read(x, calls.toString()), 12);
        DUE.same("camp, no room for a CALL", Scene.read(x, "sure 5;  call f"), -29);
        DUE.same("camp of 6 EARS", Scene.read(x, "ear 0 0;ear 0 0;ear 0 0;ear 0 0;ear 0 0;ear 0 0"), 6);
        DUE.same("camp, no room for an EAR", Scene.read(x, "ear"), -20);
        DUE.same("camp of 8 MEN", Scene.read(x,
            "man 0 0;man 0 0;man 0 0;man 0 0;man 0 0;man 0 0;man 0 0;man 0 0"), 8);
        DUE.same("camp, no room for a man", Scene.read(x, "sure 5;man 9 9"), -27);
        DUE.same("camp, no room: SURE", x.status(5), 600);
        DUE.same("camp, no room: refused", x.status(12), 3);
        DUE.same("camp, no room: FULL", x.status(16), 0);
        SoupOrHorses y = new SoupOrHorses();
        DUE.same("camp, room ends within", Scene.read(y,
            "ear 0 0;ear 0 0;ear 0 0;ear 0 0;ear 0 0;ear 0 0;ear 0 0"), -68);
        DUE.same("camp, room ends within: EARS", y.status(1), 0);
    }

    private static void promise16AllOrNothing() {
        SoupOrHorses x = Scene.camp("call ab 7 7;ear 1 1;man 0 1");
        int answer = Scene.read(x, "call c 1 1;ear 0 0;man 1 0;sure 1;lost 1;use 0 99;use 2 1");
        DUE.same("camp with a FAULT", answer, -20 - 54);
        DUE.same("camp with a FAULT: CALLS", x.status(0), 1);
        DUE.same("camp with a FAULT: EARS", x.status(1), 1);
        DUE.same("camp with a FAULT: MEN", x.status(2), 1);
        DUE.same("camp with a FAULT: USE", x.callOf(0, 1), 7);
        DUE.same("camp with a FAULT: SURE, LOST", x.status(5) * 1000 + x.status(6), 600020);
        DUE.same("camp with a FAULT: THE TAPE", x.status(7), 0);
        DUE.same("camp with a FAULT: refused", x.status(12), 1);
    }

    private static void promise17() {
        SoupOrHorses x = Scene.camp("call abc 30 40;call edcbaedc 5 6");
        DUE.same("callOf 0", x.callOf(0, 0), 3);
        DUE.same("callOf 1", x.callOf(0, 1), 30);
        DUE.same("callOf 2", x.callOf(0, 2), 40);
        DUE.same("callOf 12", x.callOf(0, 12), 2);
        DUE.same("callOf 17", x.callOf(1, 17), 2);
        Scene.refused(DUE, x, "callOf(-1, 0)", Scene.BAD, () -> x.callOf(-1, 0));
        Scene.refused(DUE, x, "callOf(2, 0)", Scene.BAD, () -> x.callOf(2, 0));
        int[] bad = {-1, 3, 9, 13, 18, Integer.MIN_VALUE, Integer.MAX_VALUE};
        for (int what : bad) {
            Scene.refused(DUE, x, "callOf(0, " + what + ")", Scene.BAD, () -> x.callOf(0, what));
        }
    }

    private static void promise18() {
        SoupOrHorses x = Scene.camp("ear 3 7;ear 4 8");
        DUE.same("earOf KIND", x.earOf(1, 0), 4);
        DUE.same("earOf a", x.earOf(1, 1), 8);
        Scene.refused(DUE, x, "earOf(-1, 0)", Scene.BAD, () -> x.earOf(-1, 0));
        Scene.refused(DUE, x, "earOf(2, 0)", Scene.BAD, () -> x.earOf(2, 0));
        Scene.refused(DUE, x, "earOf(0, -1)", Scene.BAD, () -> x.earOf(0, -1));
        Scene.refused(DUE, x, "earOf(0, 2)", Scene.BAD, () -> x.earOf(0, 2));
    }

    private static void promise19() {
        SoupOrHorses x = Scene.camp("ear 3 7;ear 4 8;man 1 0;man 0 1");
        DUE.same("manOf EAR", x.manOf(0, 0) * 10 + x.manOf(1, 0), 10);
        DUE.same("manOf LOOK", x.manOf(0, 1) * 10 + x.manOf(1, 1), 1);
        Scene.refused(DUE, x, "manOf(-1, 0)", Scene.BAD, () -> x.manOf(-1, 0));
        Scene.refused(DUE, x, "manOf(2, 0)", Scene.BAD, () -> x.manOf(2, 0));
        Scene.refused(DUE, x, "manOf(0, -1)", Scene.BAD, () -> x.manOf(0, -1));
        Scene.refused(DUE, x, "manOf(0, 2)", Scene.BAD, () -> x.manOf(0, 2));
    }
}
