/** The sentences of the Terms' part THE CAMP that name a boundary, each with a test of its own. */
public final class BoundaryCampTest {
    private static final Due DUE = new Due();
    private static Doc doc;

    public static void main(String[] args) throws Exception {
        doc = new Doc(DUE);
        twelveCalls();
        eightNotes();
        notesZeroToFour();
        uses();
        costs();
        sixEars();
        strengths();
        eightMen();
        looks();
        sure();
        lost();
        tapeIsFull();
        tapeIsReadWhole();
        tokensAreLong();
        blanksAnywhere();
        blanksAlone();
        statementsOneOrMore();
        signsBetween();
        wordsOfNotes();
        numbersOfCalls();
        numbersOfEarsAndMen();
        numbersOfSureAndLost();
        numbersOfUse();
        allOrNothing();
        fourDigits();
        noRoom();
        noRoomWithin();
        bytesOfNoToken();
        tapeEndsTooEarly();
        DUE.end();
    }

    /** What a new object answers to a text as a CAMP. */
    private static void camp(String text, int want) {
        SoupOrHorses x = new SoupOrHorses();
        Scene.feed(x, text);
        DUE.same("camp of '" + text + "'", x.camp(), want);
        DUE.same("THE TAPE behind '" + text + "'", x.status(7), 0);
        DUE.same("BAD behind '" + text + "'", x.status(12), want < 0 ? 1 : 0);
    }

    private static void fault(String text, int place) {
        camp(text, -20 - place);
    }

    private static String times(int n, String statement) {
        return (statement + ";").repeat(n - 1) + statement;
    }

    private static void twelveCalls() {
        doc.terms("CALLS have numbers, 0 on, 12 at most");
        SoupOrHorses x = new SoupOrHorses();
        x.row(0, 0, 1);
        for (int i = 0; i < 12; i++) {
            DUE.same("the next CALL", x.call(0, 1, 1, 0), i);
        }
        DUE.same("a 13th", x.call(0, 1, 1, 0), Scene.FULL);
        DUE.same("12 are there", x.status(0), 12);
        DUE.same("the last one", x.callOf(11, 0), 1);
        DUE.same("behind the last one", x.callOf(12, 0), Scene.BAD);
        DUE.same("dropped", x.drop(), 11);
        DUE.same("a 12th again", x.call(0, 1, 1, 0), 11);
        camp(times(12, "call a 1 1"), 12);
    }

    private static void eightNotes() {
        doc.terms("each of 1 to 8 NOTES");
        SoupOrHorses x = new SoupOrHorses();
        x.row(0, 0, 9);
        DUE.same("of 0", x.call(0, 0, 1, 0), Scene.BAD);
        DUE.same("of 1", x.call(0, 1, 1, 0), 0);
        DUE.same("of 8", x.call(0, 8, 1, 0), 1);
        DUE.same("of 9", x.call(0, 9, 1, 0), Scene.BAD);
        DUE.same("of -1", x.call(0, -1, 1, 0), Scene.BAD);
        DUE.same("how many 1 has", x.callOf(0, 0), 1);
        DUE.same("how many 8 has", x.callOf(1, 0), 8);
    }

    private static void notesZeroToFour() {
        doc.terms("each of 1 to 8 NOTES (0 to 4)");
        for (int at = 0; at < 8; at += 7) {
            SoupOrHorses x = new SoupOrHorses();
            x.row(0, 0, 8);
            x.set(0, at, -1);
            DUE.same("-1 at " + at, x.call(0, 8, 1, 0), Scene.BAD);
            x.set(0, at, 5);
            DUE.same("5 at " + at, x.call(0, 8, 1, 0), Scene.BAD);
            x.set(0, at, 9);
            DUE.same("GONE at " + at, x.call(0, 8, 1, 0), Scene.BAD);
            x.set(0, at, 4);
            DUE.same("4 at " + at, x.call(0, 8, 1, 0), 0);
            x.set(0, at, 0);
            DUE.same("0 at " + at, x.call(0, 8, 1, 0), 1);
            DUE.same("the 4 at " + at, x.callOf(0, 10 + at), 4);
            DUE.same("the 0 at " + at, x.callOf(1, 10 + at), 0);
        }
    }

    private static void uses() {
        doc.terms("with a USE (1 to 99)");
        SoupOrHorses x = new SoupOrHorses();
        x.row(0, 0, 1);
        DUE.same("USE 0", x.call(0, 1, 0, 0), Scene.BAD);
        DUE.same("USE 1", x.call(0, 1, 1, 0), 0);
        DUE.same("USE 99", x.call(0, 1, 99, 0), 1);
        DUE.same("USE 100", x.call(0, 1, 100, 0), Scene.BAD);
        DUE.same("USE becomes 0", x.tell(0, 0, 0), Scene.BAD);
        DUE.same("USE becomes 99", x.tell(0, 0, 99), 1);
        DUE.same("USE becomes 100", x.tell(0, 0, 100), Scene.BAD);
        DUE.same("USE becomes 1", x.tell(0, 0, 1), 99);
        DUE.same("all USES", x.status(4), 100);
    }

    private static void costs() {
        doc.terms("and a COST (0 to 99: of whatever is done wrongly for it)");
        SoupOrHorses x = new SoupOrHorses();
        x.row(0, 0, 1);
        DUE.same("COST -1", x.call(0, 1, 1, -1), Scene.BAD);
        DUE.same("COST 0", x.call(0, 1, 1, 0), 0);
        DUE.same("COST 99", x.call(0, 1, 1, 99), 1);
        DUE.same("COST 100", x.call(0, 1, 1, 100), Scene.BAD);
        DUE.same("COST becomes -1", x.tell(0, 1, -1), Scene.BAD);
        DUE.same("COST becomes 99", x.tell(0, 1, 99), 0);
        DUE.same("COST becomes 100", x.tell(0, 1, 100), Scene.BAD);
        DUE.same("COST becomes 0", x.tell(0, 1, 0), 99);
        DUE.same("the COST", x.callOf(0, 2), 0);
    }

    private static void sixEars() {
        doc.terms("EARS have numbers, 0 on, 6 at most, each of a KIND");
        SoupOrHorses x = new SoupOrHorses();
        DUE.same("KIND -1", x.ear(-1, 0), Scene.BAD);
        DUE.same("KIND 6", x.ear(6, 0), Scene.BAD);
        for (int i = 0; i < 6; i++) {
            DUE.same("the next EAR", x.ear(i, 0), i);
        }
        DUE.same("a 7th", x.ear(0, 0), Scene.FULL);
        DUE.same("KIND 6 when there are 6", x.ear(6, 0), Scene.BAD);
        DUE.same("6 are there", x.status(1), 6);
        DUE.same("the last one", x.earOf(5, 0), 5);
        DUE.same("behind the last one", x.earOf(6, 0), Scene.BAD);
        camp(times(6, "ear 0 0"), 6);
    }

    private static void strengths() {
        doc.terms("a (0 to 9)");
        SoupOrHorses x = new SoupOrHorses();
        DUE.same("a -1", x.ear(1, -1), Scene.BAD);
        DUE.same("a 0", x.ear(1, 0), 0);
        DUE.same("a 9", x.ear(1, 9), 1);
        DUE.same("a 10", x.ear(1, 10), Scene.BAD);
        DUE.same("the a", x.earOf(0, 1) * 10 + x.earOf(1, 1), 9);
    }

    private static void eightMen() {
        doc.terms("MEN have numbers, 0 on, 8 at most, each with an EAR");
        SoupOrHorses x = new SoupOrHorses();
        DUE.same("no EAR is there", x.man(0, 0), Scene.BAD);
        x.ear(0, 0);
        DUE.same("EAR -1", x.man(-1, 0), Scene.BAD);
        DUE.same("EAR 1 of one", x.man(1, 0), Scene.BAD);
        for (int i = 0; i < 8; i++) {
            DUE.same("the next man", x.man(0, 0), i);
        }
        DUE.same("a 9th", x.man(0, 0), Scene.FULL);
        DUE.same("8 are there", x.status(2), 8);
        DUE.same("the last one", x.manOf(7, 0), 0);
        DUE.same("behind the last one", x.manOf(8, 0), Scene.BAD);
        camp("ear 0 0;" + times(8, "man 0 0"), 9);
    }

    private static void looks() {
        doc.terms("a LOOK (0: by himself; 1: he looks at the others)");
        SoupOrHorses x = Scene.camp("ear 0 0");
        DUE.same("LOOK -1", x.man(0, -1), Scene.BAD);
        DUE.same("LOOK 0", x.man(0, 0), 0);
        DUE.same("LOOK 1", x.man(0, 1), 1);
        DUE.same("LOOK 2", x.man(0, 2), Scene.BAD);
        DUE.same("one LOOKS", x.status(10), 1);
    }

    private static void sure() {
        doc.terms("SURE (0 to 1000; 600 at first)");
        SoupOrHorses x = new SoupOrHorses();
        DUE.same("at first", x.status(5), 600);
        DUE.same("becomes -1", x.ask(0, -1), Scene.BAD);
        DUE.same("becomes 1001", x.ask(0, 1001), Scene.BAD);
        DUE.same("becomes 0", x.ask(0, 0), 600);
        DUE.same("becomes 1000", x.ask(0, 1000), 0);
        DUE.same("is 1000", x.status(5), 1000);
    }

    private static void lost() {
        doc.terms("LOST (0 to 100; 20 at first)");
        SoupOrHorses x = new SoupOrHorses();
        DUE.same("at first", x.status(6), 20);
        DUE.same("becomes -1", x.ask(1, -1), Scene.BAD);
        DUE.same("becomes 101", x.ask(1, 101), Scene.BAD);
        DUE.same("becomes 0", x.ask(1, 0), 20);
        DUE.same("becomes 100", x.ask(1, 100), 0);
        DUE.same("is 100", x.status(6), 100);
    }

    private static void tapeIsFull() {
        doc.terms("THE TAPE (bytes, 250 at most)");
        SoupOrHorses x = new SoupOrHorses();
        for (int size = 1; size <= 250; size++) {
            DUE.same("one byte more", x.feed(size % 256), size);
        }
        DUE.same("the 251st", x.feed(0), Scene.FULL);
        DUE.same("no byte, when it is full", x.feed(256), Scene.BAD);
        DUE.same("its size", x.status(7), 250);
        DUE.same("wiped", x.wipe(), 250);
        DUE.same("one byte again", x.feed(0), 1);
    }

    private static void tapeIsReadWhole() {
        doc.terms("A CAMP is read from THE TAPE (bytes, 250 at most)");
        String last = times(31, "lost 10") + "; ";
        DUE.same("a text's size", last.length() + 1, 250);
        camp(last.substring(0, 247) + "  1", -20 - 249);
        camp("   " + times(31, "lost 10"), 31);
        fault(" ".repeat(249) + "!", 249);
        fault(" ".repeat(250), 250);
        fault(" ".repeat(246) + "lost", 250);
        camp(" ".repeat(244) + "lost 7", 1);
        camp("lost 7" + " ".repeat(244), 1);
        fault("a".repeat(250), 0);
        fault("lost " + "1".repeat(245), 5);
    }

    private static void tokensAreLong() {
        doc.terms("TOKENS, each as long as can be");
        camp("sure55", 1);
        fault("sure55lost5", 6);
        fault("suree 5", 0);
        fault("sur 5", 0);
        fault("call abcall 1 1", 5);
        fault("sure 5 5", 7);
        fault("ear 00", 6);
        fault("call ab 123", 8);
        SoupOrHorses x = Scene.camp("call abc12 3;sure 55");
        DUE.same("a WORD ends at a digit: NOTES", x.callOf(0, 0), 3);
        DUE.same("a WORD ends at a digit: USE", x.callOf(0, 1), 12);
        DUE.same("a NUMBER ends at a blank", x.callOf(0, 2), 3);
        DUE.same("a NUMBER of two digits", x.status(5), 55);
    }

    private static void blanksAnywhere() {
        doc.terms("blanks (32) may stand anywhere between");
        camp("call a1 1;ear0 0;man0 0;sure5;lost5;use0 9", 6);
        camp("  call   a   1   1  ;  ear  0  0  ;man  0  0  ", 3);
        fault("su re 5", 0);
        fault("call a b 1", 7);
        fault("sure 1 0", 7);
        fault("sure 5" + (char) 9, 6);
        fault("sure" + (char) 9 + "5", 4);
        fault((char) 10 + "sure 5", 0);
        fault("sure 5" + (char) 13 + (char) 10, 6);
        fault("sure" + (char) 160 + "5", 4);
    }

    private static void blanksAlone() {
        doc.terms("blanks (32) may stand anywhere between. STATEMENTS, one or more");
        fault("", 0);
        fault(" ", 1);
        fault("     ", 5);
        fault("sure 5;   ", 10);
    }

    private static void statementsOneOrMore() {
        doc.terms("STATEMENTS, one or more, with ; between");
        camp("sure 5", 1);
        camp("sure 5;sure 6", 2);
        camp(times(35, "sure 5"), 35);
        camp(times(41, "sure5"), 41);
    }

    private static void signsBetween() {
        doc.terms("with ; between");
        fault(";", 0);
        fault("  ;sure 5", 2);
        fault("sure 5;", 7);
        fault("sure 5; ", 8);
        fault("sure 5;;sure 5", 7);
        fault("sure 5 ; ; sure 5", 9);
        fault("sure 5 lost 5", 7);
        fault("sure; 5", 4);
        fault("sure 5:lost 5", 6);
    }

    private static void wordsOfNotes() {
        doc.terms("call T U C (T a WORD of 1 to 8 letters a to e: NOTES 0 to 4)");
        camp("call a 1 1", 1);
        camp("call e 1 1", 1);
        camp("call abcdeabc 1 1", 1);
        fault("call abcdeabcd 1 1", 5);
        fault("call f 1 1", 5);
        fault("call abcdeabf 1 1", 5);
        fault("call fbcdeabc 1 1", 5);
        fault("call z 1 1", 5);
        fault("call az 1 1", 5);
        fault("call aza 1 1", 5);
        fault("call 1 1", 5);
        fault("call ;", 5);
        SoupOrHorses x = Scene.camp("call abcdeabc 1 1;call e 1 1");
        for (int i = 0; i < 8; i++) {
            DUE.same("the NOTE of a letter", x.callOf(0, 10 + i), i % 5);
        }
        DUE.same("the NOTE of an e alone", x.callOf(1, 10), 4);
    }

    private static void numbersOfCalls() {
        doc.terms("(also a NUMBER that may not be");
        fault("call a 0 5", 7);
        camp("call a 1 5", 1);
        camp("call a 99 5", 1);
        fault("call a 100 5", 7);
        camp("call a 5 0", 1);
        camp("call a 5 99", 1);
        fault("call a 5 100", 9);
        fault("call a b 5", 7);
        fault("call a 5 b", 9);
    }

    private static void numbersOfEarsAndMen() {
        doc.terms("ear K A; man E L");
        camp("ear 0 0", 1);
        camp("ear 5 9", 1);
        fault("ear 6 0", 4);
        fault("ear 0 10", 6);
        fault("man 0 0", 4);
        camp("ear 0 0;man 0 0", 2);
        camp("ear 0 0;man 0 1", 2);
        fault("ear 0 0;man 0 2", 14);
        fault("ear 0 0;man 1 0", 12);
        camp("ear 0 0;ear 0 0;man 1 0", 3);
        fault("man 0 0;ear 0 0", 4);
    }

    private static void numbersOfSureAndLost() {
        doc.terms("sure N; lost N");
        camp("sure 0", 1);
        camp("sure 1000", 1);
        fault("sure 1001", 5);
        camp("lost 0", 1);
        camp("lost 100", 1);
        fault("lost 101", 5);
        fault("sure a", 5);
        fault("lost ;", 5);
        SoupOrHorses x = Scene.camp("sure 1000;lost 100");
        DUE.same("SURE", x.status(5), 1000);
        DUE.same("LOST", x.status(6), 100);
        Scene.read(x, "sure 0;lost 0");
        DUE.same("SURE and LOST", x.status(5) + x.status(6), 0);
    }

    private static void numbersOfUse() {
        doc.terms("use C N (USE of a CALL becomes N)");
        fault("use 0 5", 4);
        fault("call a 1 1;use 1 5", 15);
        fault("use 0 5;call a 1 1", 4);
        fault("call a 1 1;use 0 0", 17);
        camp("call a 1 1;use 0 1", 2);
        camp("call a 1 1;use 0 99", 2);
        fault("call a 1 1;use 0 100", 17);
        SoupOrHorses x = Scene.camp(times(12, "call a 1 1") + ";use 11 99");
        DUE.same("USE of the last CALL", x.callOf(11, 1), 99);
        DUE.same("USE of the one ahead of it", x.callOf(10, 1), 1);
        DUE.same("behind the last CALL", Scene.read(x, "use 12 5"), -24);
    }

    private static void allOrNothing() {
        doc.terms("All comes to what there is, or nothing.");
        String[] faults = {
            "call ab 2 3;call cd 4 f", "ear 1 1;ear 1 10", "man 0 1;man 0 2", "sure 1;sure 1001", "lost 1;lost 101",
            "use 0 9;use 0 100", "call ab 2 3;ear 1 1;man 1 1;sure 1;lost 1;use 1 9;", "sure 1;lost 1,", "sure 1 1"};
        for (String text : faults) {
            SoupOrHorses x = Scene.camp("call abc 30 10;ear 0 3;man 0 0;sure 70;lost 30");
            x.row(0, 0, 2);
            x.show(1, 0);
            int[] want = {1, 1, 1, 3, 30, 70, 30, 0, 1, 2, 0, -1, 1, 0, 0, 0, 0};
            DUE.holds("'" + text + "' is refused", Scene.read(x, text) <= -20);
            for (int what = 0; what < want.length; what++) {
                DUE.same("'" + text + "': status(" + what + ")", x.status(what), want[what]);
            }
            DUE.same("'" + text + "': USE, COST", x.callOf(0, 1) * 100 + x.callOf(0, 2), 3010);
        }
        SoupOrHorses y = Scene.camp("call abc 30 10;ear 0 3;man 0 0");
        DUE.same("all of another text", Scene.read(y, "call d 1 2;ear 1 1;man 1 1;sure 1;lost 1;use 0 9;use 1 8"), 7);
        int[] come = {2, 2, 2, 4, 17, 1, 1, 0, 1, 0, 1, -1, 0, 0, 0, 0, 0};
        for (int what = 0; what < come.length; what++) {
            DUE.same("all of another text: status(" + what + ")", y.status(what), come[what]);
        }
    }

    private static void fourDigits() {
        doc.terms("or has more than 4 digits");
        camp("sure 0005", 1);
        camp("sure 0000", 1);
        camp("sure 1000", 1);
        fault("sure 00005", 5);
        fault("sure 00000", 5);
        fault("sure 9999", 5);
        fault("sure 10000", 5);
        // Numbers that would be 5 if only their lowest bits were kept.
        fault("sure 4294967301", 5);
        fault("sure 18446744073709551621", 5);
        camp("call a 0001 0000;ear 0000 0009;man 0000 0001;use 0000 0099;lost 0100", 5);
        fault("call a 00001 1", 7);
        fault("ear 00000 1", 4);
    }

    private static void noRoom() {
        doc.terms("what there is no room for: its word");
        SoupOrHorses x = Scene.camp(times(12, "call a 1 1"));
        Scene.read(x, times(6, "ear 0 0") + ";" + times(8, "man 0 0"));
        String[] texts = {"call a 1 1", "call f", "call", "ear 0 0", "ear 9", "ear", "man 0 0", "man 9", "man;"};
        for (String text : texts) {
            DUE.same("'" + text + "'", Scene.read(x, text), -20);
            DUE.same("'  sure 5; " + text + "'", Scene.read(x, "  sure 5; " + text), -30);
        }
        DUE.same("BAD, not FULL", x.status(12) * 100 + x.status(16), 1800);
        DUE.same("what needs no room", Scene.read(x, "sure 5;lost 5;use 11 5"), 3);
        DUE.same("SURE", x.status(5), 5);
    }

    private static void noRoomWithin() {
        doc.terms("what there is no room for: its word");
        fault(times(12, "call a 1 1") + "; call a 1 1", 133);
        fault(times(6, "ear 0 0") + "; ear 0 0", 49);
        fault("ear 0 0;" + times(8, "man 0 0") + "; man 0 0", 73);
        SoupOrHorses x = Scene.camp(times(11, "call a 1 1"));
        DUE.same("one too many", Scene.read(x, "call b 1 1;call c 1 1"), -31);
        DUE.same("one too many: none comes", x.status(0), 11);
        DUE.same("just as many", Scene.read(x, "call b 1 1"), 1);
    }

    private static void bytesOfNoToken() {
        doc.terms("a byte that begins none");
        int[] bytes = {0, 1, 9, 10, 31, 33, '-', '+', '.', ',', '/', ':', '<', '@', 'A', 'Z', '[', '`', '{', '~', 127,
            128, 160, 223, 254, 255};
        for (int b : bytes) {
            char sign = (char) b;
            fault("" + sign, 0);
            fault("  " + sign + "sure 5", 2);
            fault("sure" + sign + "5", 4);
            fault("sure 5" + sign, 6);
            fault("sure 5;" + sign, 7);
            fault("call a" + sign + " 1 1", 6);
            fault("call " + sign + "a 1 1", 5);
        }
    }

    private static void tapeEndsTooEarly() {
        doc.terms("THE TAPE's size, if it ends too early.");
        String[] texts = {
            "call", "call ab", "call ab 12", "call ab 1 2;", "ear", "ear 1", "ear 1 2;", "ear 0 0;man", "ear 0 0;man 0",
            "sure", "sure 5;", "lost", "lost 5;", "call a 1 1;use", "call a 1 1;use 0", "call a 1 1;use 0 9;"};
        for (String text : texts) {
            fault(text, text.length());
            fault(text + "   ", text.length() + 3);
        }
    }
}
