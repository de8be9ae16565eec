import java.util.Arrays;

/**
 * What does that call mean: calls on a bugle, ears that hear them badly, men who go by what they
 * hear, and what comes of it. The words in capitals are those of the document.
 */
public final class SoupOrHorses {
    public static final int NONE = -1;

    private static final int BAD = -2;
    private static final int OTHER = -3;
    private static final int NOTHING = -4;
    private static final int STUCK = -5;
    private static final int FULL = -6;
    private static final int REFUSAL_SORTS = 5;

    private static final int MOST_SHELVES = 8;
    private static final int MOST_DISTANCE = 8;
    private static final int MOST_FRESH_NOTES = 5;
    private static final int MOST_DAYS = 99;

    private final Camp now;
    private final Camp kept;
    private final Camp draft;
    private boolean isKept;
    private final Shelf[] shelves;
    private final Tape tape;
    private final Hearing hearing;
    private final Crowd crowd;
    private final Likeness likeness;
    private final int[] refusals;

    public SoupOrHorses() {
        now = new Camp();
        kept = new Camp();
        draft = new Camp();
        isKept = false;
        shelves = new Shelf[MOST_SHELVES];
        for (int s = 0; s < MOST_SHELVES; s++) {
            shelves[s] = new Shelf();
        }
        tape = new Tape();
        hearing = new Hearing();
        crowd = new Crowd();
        likeness = new Likeness();
        refusals = new int[REFUSAL_SORTS];
    }

    // SHELVES

    public int row(int s, int sort, int n) {
        Shelf shelf = shelfAt(s);
        if (shelf == null || sort < 0 || sort >= Shelf.SORTS || n < 0 || n > Shelf.MOST_ELEMENTS) {
            return refuse(BAD);
        }
        shelf.putRow(sort, n);
        return 1;
    }

    public int set(int s, int i, long v) {
        Shelf shelf = shelfAt(s);
        if (shelf == null) {
            return refuse(BAD);
        }
        int why = shelf.whyNoRow();
        if (why != 0) {
            return refuse(why);
        }
        if (!shelf.hasPlaces(i, 1)) {
            return refuse(BAD);
        }
        shelf.putElement(i, v);
        return 1;
    }

    public int copy(int p, int q, int i, int j, int n) {
        Shelf from = shelfAt(p);
        Shelf to = shelfAt(q);
        if (from == null || to == null) {
            return refuse(BAD);
        }
        if (from.hasEar() || to.hasEar()) {
            return refuse(OTHER);
        }
        if (from.hasRow() && to.hasRow() && from.content != to.content) {
            return refuse(OTHER);
        }
        if (!from.hasRow() || !to.hasRow()) {
            return refuse(NOTHING);
        }
        if (!from.hasPlaces(i, n) || !to.hasPlaces(j, n)) {
            return refuse(BAD);
        }
        to.takeElements(from, i, j, n);
        return n;
    }

    public long element(int s, int i) {
        Shelf shelf = shelfAt(s);
        return shelf == null ? 0 : shelf.elementAt(i);
    }

    public int holds(int s) {
        Shelf shelf = shelfAt(s);
        return shelf == null ? NONE : shelf.content;
    }

    public int show(int s, int ear) {
        Shelf shelf = shelfAt(s);
        if (shelf == null || (ear != NONE && !now.isEar(ear))) {
            return refuse(BAD);
        }
        if (ear == NONE) {
            shelf.clear();
        } else {
            shelf.putEar(ear);
        }
        return 1;
    }

    public int says(int s, int kind) {
        Shelf shelf = shelfAt(s);
        if (shelf == null || !Kind.isKind(kind)) {
            return refuse(BAD);
        }
        if (shelf.hasRow()) {
            return refuse(OTHER);
        }
        if (!shelf.hasEar()) {
            return refuse(NOTHING);
        }
        int own = now.kindOf(shelf.earNumber());
        if (!Kind.isUnder(own, kind)) {
            return refuse(OTHER);
        }
        return Kind.tellOf(own, now.strengthOf(shelf.earNumber()), kind);
    }

    // THE CAMP

    public int call(int s, int n, int use, int cost) {
        Shelf shelf = shelfAt(s);
        if (shelf == null || n < 1 || n > Camp.MOST_NOTES || !Camp.isUse(use) || !Camp.isCost(cost)) {
            return refuse(BAD);
        }
        int why = shelf.whyNoRow();
        if (why != 0) {
            return refuse(why);
        }
        if (n > shelf.size || !shelf.startsWithNotes(n)) {
            return refuse(BAD);
        }
        if (!now.hasRoomForCall()) {
            return refuse(FULL);
        }
        int number = now.addCall(use, cost);
        for (int i = 0; i < n; i++) {
            now.addNote((int) shelf.elementAt(i));
        }
        return number;
    }

    public int ear(int kind, int a) {
        if (!Kind.isKind(kind) || !Kind.isStrength(a)) {
            return refuse(BAD);
        }
        return now.hasRoomForEar() ? now.addEar(kind, a) : refuse(FULL);
    }

    public int man(int ear, int look) {
        if (!now.isEar(ear) || !Camp.isLook(look)) {
            return refuse(BAD);
        }
        return now.hasRoomForMan() ? now.addMan(ear, look) : refuse(FULL);
    }

    public int tell(int call, int what, int v) {
        if (!now.isCall(call)) {
            return refuse(BAD);
        }
        if (what == 0 && Camp.isUse(v)) {
            return now.changeUse(call, v);
        }
        if (what == 1 && Camp.isCost(v)) {
            return now.changeCost(call, v);
        }
        return refuse(BAD);
    }

    public int ask(int what, int v) {
        if (what == 0 && Camp.isSure(v)) {
            int old = now.sure;
            now.sure = v;
            return old;
        }
        if (what == 1 && Camp.isLost(v)) {
            int old = now.lost;
            now.lost = v;
            return old;
        }
        return refuse(BAD);
    }

    public int feed(int letter) {
        if (letter < 0 || letter > Tape.MOST_LETTER) {
            return refuse(BAD);
        }
        return tape.hasRoom() ? tape.append(letter) : refuse(FULL);
    }

    public int wipe() {
        return tape.empty();
    }

    public int camp() {
        // Read into a draft, so that a FAULT leaves all as it is.
        draft.takeAll(now);
        int answer = Reader.readCamp(tape, draft);
        tape.empty();
        if (answer < 0) {
            refuse(BAD);
            return answer;
        }
        now.takeAll(draft);
        return answer;
    }

    public int callOf(int call, int what) {
        if (!now.isCall(call)) {
            return refuse(BAD);
        }
        switch (what) {
            case 0:
                return now.sizeOf(call);
            case 1:
                return now.useOf(call);
            case 2:
                return now.costOf(call);
            default:
                // 10 is taken off a what of 10 and more alone: a very low one would wrap around.
                return what >= 10 && now.isNoteOf(call, what - 10)
                    ? now.noteAt(call, what - 10) : refuse(BAD);
        }
    }

    public int earOf(int ear, int what) {
        if (!now.isEar(ear) || what < 0 || what > 1) {
            return refuse(BAD);
        }
        return what == 0 ? now.kindOf(ear) : now.strengthOf(ear);
    }

    public int manOf(int man, int what) {
        if (!now.isMan(man) || what < 0 || what > 1) {
            return refuse(BAD);
        }
        return what == 0 ? now.earOfMan(man) : now.lookOf(man);
    }

    // WHAT IS HEARD

    public int heard(int call, int ear, int i) {
        if (!now.isCall(call) || !now.isEar(ear) || !now.isNoteOf(call, i)) {
            return refuse(BAD);
        }
        return Sense.noteByEar(now, call, ear, i);
    }

    public int fits(int s, int n, boolean over, int ear, int call) {
        int why = takeHearing(s, n, over, now.isEar(ear) && now.isCall(call));
        if (why != 0) {
            return refuse(why);
        }
        return Sense.isFit(now, hearing, ear, call) ? 1 : 0;
    }

    public int likely(int s, int n, boolean over, int ear, int call) {
        int why = takeHearing(s, n, over, now.isEar(ear) && now.isCall(call));
        return why == 0 ? Sense.likelyOf(now, hearing, ear, call) : refuse(why);
    }

    public int guess(int s, int n, boolean over, int ear) {
        int why = takeHearing(s, n, over, now.isEar(ear));
        return why == 0 ? Sense.guessOf(now, hearing, ear) : refuse(why);
    }

    public int apart(int call, int other) {
        if (!now.isCall(call) || !now.isCall(other)) {
            return refuse(BAD);
        }
        return Likeness.distance(now.packedOf(call), now.packedOf(other));
    }

    public int known(int call, int ear) {
        if (!now.isCall(call) || !now.isEar(ear)) {
            return refuse(BAD);
        }
        int behind = Sense.countedBehind(now, hearing, call, ear);
        return behind <= now.sizeOf(call) + 1 ? behind : NONE;
    }

    public int earFor(int call) {
        if (!now.isCall(call)) {
            return refuse(BAD);
        }
        return now.ears > 0 ? Sense.bestEar(now, hearing, call) : refuse(STUCK);
    }

    public int mean(int ear) {
        if (!now.isEar(ear)) {
            return refuse(BAD);
        }
        return now.calls > 0 ? Sense.meanBehind(now, hearing, ear) : refuse(STUCK);
    }

    public int worst(int ear) {
        if (!now.isEar(ear)) {
            return refuse(BAD);
        }
        return now.calls > 0 ? Sense.riskiest(now, hearing, ear) : refuse(STUCK);
    }

    public int next(int s, int n, int ear) {
        int why = takeHearing(s, n, false, now.isEar(ear));
        return why == 0 ? Sense.nextBits(now, hearing, ear) : refuse(why);
    }

    // WHAT COMES OF IT

    public int alikeFirst(int call, int other) {
        if (!now.isCall(call) || !now.isCall(other)) {
            return refuse(BAD);
        }
        return Likeness.sameStart(now, call, other);
    }

    public int notes(int note) {
        return Camp.isNote(note) ? now.countNote(note) : refuse(BAD);
    }

    public int twins() {
        return Likeness.countTwins(now);
    }

    public int change(int call, int d) {
        if (!now.isCall(call) || !isDistance(d)) {
            return refuse(BAD);
        }
        if (now.sizeOf(call) > MOST_FRESH_NOTES) {
            return refuse(STUCK);
        }
        return Likeness.fewestChanges(now, call, d);
    }

    public int alike(int what) {
        if (what < 0 || what > 1) {
            return refuse(BAD);
        }
        if (now.calls < 2) {
            return refuse(STUCK);
        }
        int pair = Likeness.nearestPair(now);
        return what == 0 ? pair : Likeness.pairDistance(now, pair);
    }

    public int mixed(int ear, int what) {
        if (!now.isEar(ear) || what < 0 || what > 1) {
            return refuse(BAD);
        }
        return what == 0 ? Sense.countMixed(now, hearing, ear) : Sense.firstMixed(now, hearing, ear);
    }

    public int fresh(int n, int d) {
        if (n < 1 || n > MOST_FRESH_NOTES || !isDistance(d)) {
            return refuse(BAD);
        }
        return Likeness.firstFresh(now, n, d);
    }

    public int keep(int d) {
        return isDistance(d) ? likeness.bestSet(now, d) : refuse(BAD);
    }

    public int does(int call, int man) {
        if (!now.isCall(call) || !now.isMan(man)) {
            return refuse(BAD);
        }
        crowd.hearAndDo(now, hearing, call);
        return crowd.deedOf(man);
    }

    public int right(int call) {
        if (!now.isCall(call)) {
            return refuse(BAD);
        }
        crowd.hearAndDo(now, hearing, call);
        return crowd.countDoing(call);
    }

    public int leads(int call) {
        if (!now.isCall(call)) {
            return refuse(BAD);
        }
        crowd.hearAndDo(now, hearing, call);
        return crowd.firstNotDoing(call);
    }

    public int follows(int call) {
        if (!now.isCall(call)) {
            return refuse(BAD);
        }
        crowd.hearAndDo(now, hearing, call);
        return crowd.notByGuess();
    }

    public int sureFor(int call) {
        return now.isCall(call) ? crowd.leastSure(now, hearing, call) : refuse(BAD);
    }

    public int risk(int call, int ear) {
        if (!now.isCall(call) || !now.isEar(ear)) {
            return refuse(BAD);
        }
        return Sense.riskOf(now, hearing, call, ear);
    }

    public int learn(int i) {
        return i >= 0 && i < now.calls ? now.learnedAt(i) : refuse(BAD);
    }

    public int nearest(int s, int n, int what) {
        int why = takeHearing(s, n, true, what == 0 || what == 1);
        if (why != 0) {
            return refuse(why);
        }
        if (now.calls == 0) {
            return refuse(STUCK);
        }
        int call = Sense.nearestCall(now, hearing);
        return what == 0 ? call : Sense.differences(now, hearing, call);
    }

    public int judge(int s, int n) {
        Shelf shelf = shelfAt(s);
        if (shelf == null || n < 0 || n > Shelf.MOST_ELEMENTS) {
            return refuse(BAD);
        }
        int why = shelf.whyNoRow();
        if (why != 0) {
            return refuse(why);
        }
        return n <= shelf.size ? shelf.firstUnheard(n) : refuse(BAD);
    }

    public int when(int s, int n, int ear) {
        int why = takeHearing(s, n, false, now.isEar(ear));
        return why == 0 ? Sense.whenSure(now, hearing, ear) : refuse(why);
    }

    // IN TRUTH

    public int sound(int call, int s) {
        Shelf shelf = shelfAt(s);
        if (!now.isCall(call) || shelf == null) {
            return refuse(BAD);
        }
        int gone = hearing.takeSounded(now, call);
        shelf.putHearing(hearing);
        return gone;
    }

    public int days(int n) {
        if (n < 1 || n > MOST_DAYS) {
            return refuse(BAD);
        }
        if (now.calls == 0) {
            return refuse(STUCK);
        }
        int wrong = 0;
        for (int day = 0; day < n; day++) {
            int sounded = now.drawBelow(now.calls);
            hearing.takeSounded(now, sounded);
            if (Sense.nearestCall(now, hearing) != sounded) {
                wrong++;
            }
        }
        return wrong;
    }

    public int drop() {
        return now.calls > 0 ? now.removeLastCall() : refuse(STUCK);
    }

    public int seed(int v) {
        int old = now.seed;
        now.seed = v;
        return old;
    }

    public int image() {
        kept.takeAll(now);
        isKept = true;
        return 1;
    }

    public int back() {
        if (!isKept) {
            return refuse(STUCK);
        }
        now.takeAll(kept);
        for (int s = 0; s < MOST_SHELVES; s++) {
            Shelf shelf = shelfAt(s);
            if (shelf != null && shelf.hasEar() && !now.isEar(shelf.earNumber())) {
                shelf.clear();
            }
        }
        return 1;
    }

    public int status(int what) {
        switch (what) {
            case 0:
                return now.calls;
            case 1:
                return now.ears;
            case 2:
                return now.men;
            case 3:
                return now.countNotes();
            case 4:
                return now.sumUses();
            case 5:
                return now.sure;
            case 6:
                return now.lost;
            case 7:
                return tape.size;
            case 8:
                return now.seed;
            case 9:
                return countFilledShelves();
            case 10:
                return now.countLookers();
            default:
                return what >= 12 && what - 12 < refusals.length ? refusals[what - 12] : NONE;
        }
    }

    // What several promises want

    private int refuse(int why) {
        int sort = BAD - why;
        if (sort >= 0 && sort < refusals.length) {
            refusals[sort]++;
        }
        return why;
    }

    /** The SHELF of that number, or null. */
    private Shelf shelfAt(int s) {
        return s >= 0 && s < shelves.length ? shelves[s] : null;
    }

    private int countFilledShelves() {
        int count = 0;
        for (int s = 0; s < MOST_SHELVES; s++) {
            Shelf shelf = shelfAt(s);
            if (shelf != null && shelf.content != NONE) {
                count++;
            }
        }
        return count;
    }

    private static boolean isDistance(int d) {
        return d >= 0 && d <= MOST_DISTANCE;
    }

    /** Takes a told HEARING from a SHELF: 0, or why it is refused. */
    private int takeHearing(int s, int n, boolean over, boolean isRestGood) {
        Shelf shelf = shelfAt(s);
        if (shelf == null || n < 0 || n > Camp.MOST_NOTES || !isRestGood) {
            return BAD;
        }
        int why = shelf.whyNoRow();
        if (why != 0) {
            return why;
        }
        if (n > shelf.size) {
            return BAD;
        }
        if (shelf.firstUnheard(n) != NONE) {
            return STUCK;
        }
        hearing.takeShelf(shelf, n, over);
        return 0;
    }

    /** A SHELF: what it holds is told by content, as holds() answers it. */
    private static final class Shelf {
        static final int SORTS = 5;
        static final int MOST_ELEMENTS = 40;
        private static final int FIRST_EAR = 10;

        private final long[] elements = new long[MOST_ELEMENTS];
        int content = NONE;
        int size = 0;

        boolean hasRow() {
            return content >= 0 && content < SORTS;
        }

        boolean hasEar() {
            return content >= FIRST_EAR;
        }

        /** 0 if it holds a ROW, else what a call that wants one is refused with. */
        int whyNoRow() {
            if (hasRow()) {
                return 0;
            }
            return hasEar() ? OTHER : NOTHING;
        }

        int earNumber() {
            return hasEar() ? content - FIRST_EAR : NONE;
        }

        void clear() {
            content = NONE;
            size = 0;
        }

        void putEar(int ear) {
            content = FIRST_EAR + ear;
            size = 0;
        }

        void putRow(int sort, int n) {
            content = sort;
            size = Math.max(0, Math.min(n, MOST_ELEMENTS));
            Arrays.fill(elements, 0L);
        }

        void putHearing(Hearing hearing) {
            putRow(0, hearing.size);
            for (int i = 0; i < hearing.size; i++) {
                putElement(i, hearing.noteAt(i));
            }
        }

        /** Whether n places from i on are all there; no sum of theirs, which may wrap around. */
        boolean hasPlaces(int i, int n) {
            return i >= 0 && n >= 0 && n <= size && i <= size - n;
        }

        long elementAt(int i) {
            return hasRow() && hasPlaces(i, 1) ? elements[i] : 0;
        }

        void putElement(int i, long v) {
            if (hasPlaces(i, 1)) {
                elements[i] = lowestBits(v);
            }
        }

        private long lowestBits(long v) {
            switch (content) {
                case 0:
                    return (byte) v;
                case 1:
                    return (short) v;
                case 2:
                    return (int) v;
                case 4:
                    return v != 0 ? 1 : 0;
                default:
                    return v;
            }
        }

        void takeElements(Shelf from, int i, int j, int n) {
            if (from.hasPlaces(i, n) && hasPlaces(j, n)) {
                System.arraycopy(from.elements, i, elements, j, n);
            }
        }

        boolean startsWithNotes(int n) {
            for (int i = 0; i < n; i++) {
                if (!Camp.isNote(elementAt(i))) {
                    return false;
                }
            }
            return true;
        }

        /** The first of n elements that is no NOTE, nor GONE, or NONE. */
        int firstUnheard(int n) {
            for (int i = 0; i < n; i++) {
                long v = elementAt(i);
                if (!Camp.isNote(v) && v != Hearing.GONE) {
                    return i;
                }
            }
            return NONE;
        }
    }

    /** The KINDS of EARS, and what each does to a NOTE. */
    private static final class Kind {
        static final int EAR = 0;
        static final int TORN = 1;
        static final int SPLIT = 2;
        static final int LATE = 3;
        static final int FAR = 4;
        static final int ECHO = 5;
        private static final int MOST_STRENGTH = 9;

        static boolean isKind(int kind) {
            return kind >= EAR && kind <= ECHO;
        }

        static boolean isStrength(int a) {
            return a >= 0 && a <= MOST_STRENGTH;
        }

        /** Whether an EAR of a KIND is of another KIND, too. */
        static boolean isUnder(int kind, int other) {
            return kind == other || other == EAR
                || (kind == LATE && other == TORN) || (kind == FAR && other == SPLIT);
        }

        /** Whether the i-th of size NOTES is GONE for its place. */
        static boolean isTornAway(int kind, int a, int i, int size) {
            if (kind != TORN && kind != LATE) {
                return false;
            }
            return i < a || (kind == LATE && i == size - 1);
        }

        /** Whether the NOTE at a place is heard as the one ahead of it. */
        static boolean isEchoed(int kind, int a, int i) {
            return kind == ECHO && i > 0 && a >= 0 && i % (a + 1) == a;
        }

        static int changedNote(int kind, int note) {
            if (kind != SPLIT && kind != FAR) {
                return note;
            }
            if (kind == FAR && note == 0) {
                return Hearing.GONE;
            }
            return note == 4 ? 3 : note;
        }

        /** What an EAR of a KIND and a tells, taken for one of another KIND that it is under. */
        static int tellOf(int kind, int a, int takenFor) {
            switch (takenFor) {
                case TORN:
                case LATE:
                    return countTornAway(kind, a);
                case SPLIT:
                case FAR:
                    return changedNote(kind, 4);
                case ECHO:
                    return countEchoed(kind, a);
                default:
                    return a;
            }
        }

        private static int countTornAway(int kind, int a) {
            int count = 0;
            for (int i = 0; i < Camp.MOST_NOTES; i++) {
                if (isTornAway(kind, a, i, Camp.MOST_NOTES)) {
                    count++;
                }
            }
            return count;
        }

        private static int countEchoed(int kind, int a) {
            int count = 0;
            for (int i = 0; i < Camp.MOST_NOTES; i++) {
                if (isEchoed(kind, a, i)) {
                    count++;
                }
            }
            return count;
        }
    }

    /** The CALLS, EARS and MEN, and what they go by: all that image() keeps. */
    private static final class Camp {
        static final int MOST_NOTES = 8;
        static final int MOST_CALLS = 12;
        static final int MOST_EARS = 6;
        static final int MOST_MEN = 8;
        private static final int HIGHEST_NOTE = 4;
        private static final int NOTE_BITS = 3;
        private static final int NOTE_MASK = 7;

        private final int[] sizes = new int[MOST_CALLS];
        private final int[] packed = new int[MOST_CALLS];
        private final int[] uses = new int[MOST_CALLS];
        private final int[] costs = new int[MOST_CALLS];
        private final int[] kinds = new int[MOST_EARS];
        private final int[] strengths = new int[MOST_EARS];
        private final int[] earsOfMen = new int[MOST_MEN];
        private final int[] looks = new int[MOST_MEN];
        int calls = 0;
        int ears = 0;
        int men = 0;
        int sure = 600;
        int lost = 20;
        int seed = 1;

        static boolean isNote(long v) {
            return v >= 0 && v <= HIGHEST_NOTE;
        }

        static boolean isUse(int v) {
            return v >= 1 && v <= 99;
        }

        static boolean isCost(int v) {
            return v >= 0 && v <= 99;
        }

        static boolean isLook(int v) {
            return v == 0 || v == 1;
        }

        static boolean isSure(int v) {
            return v >= 0 && v <= 1000;
        }

        static boolean isLost(int v) {
            return v >= 0 && v <= 100;
        }

        /** A NOTE and 1 in the bits of its place: 0 there is for no NOTE, which differs from each. */
        static int packedNote(int note, int i) {
            return (note + 1) << (NOTE_BITS * i);
        }

        void takeAll(Camp other) {
            System.arraycopy(other.sizes, 0, sizes, 0, MOST_CALLS);
            System.arraycopy(other.packed, 0, packed, 0, MOST_CALLS);
            System.arraycopy(other.uses, 0, uses, 0, MOST_CALLS);
            System.arraycopy(other.costs, 0, costs, 0, MOST_CALLS);
            System.arraycopy(other.kinds, 0, kinds, 0, MOST_EARS);
            System.arraycopy(other.strengths, 0, strengths, 0, MOST_EARS);
            System.arraycopy(other.earsOfMen, 0, earsOfMen, 0, MOST_MEN);
            System.arraycopy(other.looks, 0, looks, 0, MOST_MEN);
            calls = other.calls;
            ears = other.ears;
            men = other.men;
            sure = other.sure;
            lost = other.lost;
            seed = other.seed;
        }

        boolean isCall(int call) {
            return call >= 0 && call < calls;
        }

        boolean isEar(int ear) {
            return ear >= 0 && ear < ears;
        }

        boolean isMan(int man) {
            return man >= 0 && man < men;
        }

        boolean hasRoomForCall() {
            return calls < MOST_CALLS;
        }

        boolean hasRoomForEar() {
            return ears < MOST_EARS;
        }

        boolean hasRoomForMan() {
            return men < MOST_MEN;
        }

        /** A CALL without NOTES yet: its number. */
        int addCall(int use, int cost) {
            if (calls < 0 || calls >= MOST_CALLS) {
                return NONE;
            }
            sizes[calls] = 0;
            packed[calls] = 0;
            uses[calls] = use;
            costs[calls] = cost;
            calls++;
            return calls - 1;
        }

        /** Puts a NOTE behind those of the last CALL. */
        void addNote(int note) {
            int call = calls - 1;
            if (call >= 0 && call < MOST_CALLS && sizes[call] < MOST_NOTES) {
                packed[call] |= packedNote(note, sizes[call]);
                sizes[call]++;
            }
        }

        int removeLastCall() {
            if (calls > 0) {
                calls--;
            }
            return calls;
        }

        int addEar(int kind, int a) {
            if (ears < 0 || ears >= MOST_EARS) {
                return NONE;
            }
            kinds[ears] = kind;
            strengths[ears] = a;
            ears++;
            return ears - 1;
        }

        int addMan(int ear, int look) {
            if (men < 0 || men >= MOST_MEN) {
                return NONE;
            }
            earsOfMen[men] = ear;
            looks[men] = look;
            men++;
            return men - 1;
        }

        int sizeOf(int call) {
            return call >= 0 && call < calls && call < sizes.length ? sizes[call] : 0;
        }

        int packedOf(int call) {
            return call >= 0 && call < calls && call < packed.length ? packed[call] : 0;
        }

        int useOf(int call) {
            return call >= 0 && call < calls && call < uses.length ? uses[call] : 0;
        }

        int costOf(int call) {
            return call >= 0 && call < calls && call < costs.length ? costs[call] : 0;
        }

        boolean isNoteOf(int call, int i) {
            return i >= 0 && i < sizeOf(call);
        }

        int noteAt(int call, int i) {
            if (call < 0 || call >= calls || call >= MOST_CALLS || i < 0 || i >= sizes[call]) {
                return Hearing.GONE;
            }
            return (packed[call] >> (NOTE_BITS * i) & NOTE_MASK) - 1;
        }

        int kindOf(int ear) {
            return ear >= 0 && ear < ears && ear < kinds.length ? kinds[ear] : Kind.EAR;
        }

        int strengthOf(int ear) {
            return ear >= 0 && ear < ears && ear < strengths.length ? strengths[ear] : 0;
        }

        int earOfMan(int man) {
            return man >= 0 && man < men && man < earsOfMen.length ? earsOfMen[man] : NONE;
        }

        int lookOf(int man) {
            return man >= 0 && man < men && man < looks.length ? looks[man] : 0;
        }

        int changeUse(int call, int v) {
            int old = useOf(call);
            if (call >= 0 && call < calls && call < uses.length) {
                uses[call] = v;
            }
            return old;
        }

        int changeCost(int call, int v) {
            int old = costOf(call);
            if (call >= 0 && call < calls && call < costs.length) {
                costs[call] = v;
            }
            return old;
        }

        int countNotes() {
            int count = 0;
            for (int call = 0; call < calls; call++) {
                count += sizeOf(call);
            }
            return count;
        }

        int countNote(int note) {
            int count = 0;
            for (int call = 0; call < calls; call++) {
                for (int i = 0; i < sizeOf(call); i++) {
                    if (noteAt(call, i) == note) {
                        count++;
                    }
                }
            }
            return count;
        }

        int sumUses() {
            int sum = 0;
            for (int call = 0; call < calls; call++) {
                sum += useOf(call);
            }
            return sum;
        }

        int countLookers() {
            int count = 0;
            for (int man = 0; man < men; man++) {
                count += lookOf(man);
            }
            return count;
        }

        /** The CALL that has i others ahead of it in LEARN, or NONE. */
        int learnedAt(int i) {
            for (int call = 0; call < calls; call++) {
                if (countLearnedAhead(call) == i) {
                    return call;
                }
            }
            return NONE;
        }

        private int countLearnedAhead(int call) {
            int worth = useOf(call) * costOf(call);
            int count = 0;
            for (int other = 0; other < calls; other++) {
                int otherWorth = useOf(other) * costOf(other);
                if (otherWorth > worth || (otherWorth == worth && other < call)) {
                    count++;
                }
            }
            return count;
        }

        /** A DRAW below n: SEED becomes its follower. */
        int drawBelow(int n) {
            seed = seed * 1103515245 + 12345;
            return n > 0 ? (seed >>> 16) % n : 0;
        }
    }

    /** A HEARING: NOTES, some of them GONE, OVER or not. */
    private static final class Hearing {
        static final int GONE = 9;

        private final int[] heardNotes = new int[Camp.MOST_NOTES];
        int size = 0;
        boolean isOver = false;

        int noteAt(int i) {
            return i >= 0 && i < size && i < heardNotes.length ? heardNotes[i] : GONE;
        }

        void cutTo(int n, boolean over) {
            size = Math.max(0, Math.min(n, heardNotes.length));
            isOver = over;
        }

        private void putNote(int i, int note) {
            if (i >= 0 && i < heardNotes.length) {
                heardNotes[i] = note;
            }
        }

        void takeShelf(Shelf shelf, int n, boolean over) {
            cutTo(n, over);
            for (int i = 0; i < size; i++) {
                putNote(i, (int) shelf.elementAt(i));
            }
        }

        /** Becomes a whole CALL as an EAR has it, OVER. */
        void takeCall(Camp camp, int call, int ear) {
            cutTo(camp.sizeOf(call), true);
            for (int i = 0; i < size; i++) {
                putNote(i, Sense.noteByEar(camp, call, ear, i));
            }
        }

        /** Becomes what is left of a CALL SOUNDED in truth: how many of its NOTES are GONE. */
        int takeSounded(Camp camp, int call) {
            cutTo(camp.sizeOf(call), true);
            int gone = 0;
            for (int i = 0; i < size; i++) {
                boolean isGone = camp.drawBelow(100) < camp.lost;
                putNote(i, isGone ? GONE : camp.noteAt(call, i));
                if (isGone) {
                    gone++;
                }
            }
            return gone;
        }
    }

    /** What is made of a CALL by an EAR, and of a HEARING. */
    private static final class Sense {
        /** The i-th NOTE of a CALL as an EAR has it. */
        static int noteByEar(Camp camp, int call, int ear, int i) {
            int kind = camp.kindOf(ear);
            int a = camp.strengthOf(ear);
            if (Kind.isTornAway(kind, a, i, camp.sizeOf(call))) {
                return Hearing.GONE;
            }
            if (Kind.isEchoed(kind, a, i)) {
                return camp.noteAt(call, i - 1);
            }
            return Kind.changedNote(kind, camp.noteAt(call, i));
        }

        static boolean isFit(Camp camp, Hearing hearing, int ear, int call) {
            int size = camp.sizeOf(call);
            if (size < hearing.size || (hearing.isOver && size != hearing.size)) {
                return false;
            }
            for (int i = 0; i < hearing.size; i++) {
                int told = hearing.noteAt(i);
                int own = noteByEar(camp, call, ear, i);
                if (told != own && told != Hearing.GONE && own != Hearing.GONE) {
                    return false;
                }
            }
            return true;
        }

        static int usesThatFit(Camp camp, Hearing hearing, int ear) {
            int sum = 0;
            for (int call = 0; call < camp.calls; call++) {
                if (isFit(camp, hearing, ear, call)) {
                    sum += camp.useOf(call);
                }
            }
            return sum;
        }

        static int likelyOf(Camp camp, Hearing hearing, int ear, int call) {
            if (!isFit(camp, hearing, ear, call)) {
                return 0;
            }
            return perThousand(camp.useOf(call), usesThatFit(camp, hearing, ear));
        }

        static int perThousand(int part, int all) {
            return all > 0 ? 1000 * part / all : 0;
        }

        static int guessOf(Camp camp, Hearing hearing, int ear) {
            int best = NONE;
            for (int call = 0; call < camp.calls; call++) {
                // A CALL's USE is 1 at least, and that of NONE is told as 0.
                if (camp.useOf(call) > camp.useOf(best) && isFit(camp, hearing, ear, call)) {
                    best = call;
                }
            }
            return best;
        }

        private static boolean fitsAnother(Camp camp, Hearing hearing, int ear, int call) {
            for (int other = 0; other < camp.calls; other++) {
                if (other != call && isFit(camp, hearing, ear, other)) {
                    return true;
                }
            }
            return false;
        }

        /** KNOWN BEHIND, with 2 more than the CALL has for NONE. */
        static int countedBehind(Camp camp, Hearing hearing, int call, int ear) {
            hearing.takeCall(camp, call, ear);
            int size = camp.sizeOf(call);
            for (int n = 0; n <= size; n++) {
                hearing.cutTo(n, false);
                if (!fitsAnother(camp, hearing, ear, call)) {
                    return n;
                }
            }
            hearing.cutTo(size, true);
            return fitsAnother(camp, hearing, ear, call) ? size + 2 : size + 1;
        }

        static int bestEar(Camp camp, Hearing hearing, int call) {
            int best = NONE;
            int fewest = 0;
            for (int ear = 0; ear < camp.ears; ear++) {
                int behind = countedBehind(camp, hearing, call, ear);
                if (best == NONE || behind < fewest) {
                    best = ear;
                    fewest = behind;
                }
            }
            return best;
        }

        static int meanBehind(Camp camp, Hearing hearing, int ear) {
            int sum = 0;
            for (int call = 0; call < camp.calls; call++) {
                sum += camp.useOf(call) * countedBehind(camp, hearing, call, ear);
            }
            return perThousand(sum, camp.sumUses());
        }

        static int riskOf(Camp camp, Hearing hearing, int call, int ear) {
            hearing.takeCall(camp, call, ear);
            int sum = 0;
            for (int other = 0; other < camp.calls; other++) {
                if (other != call && isFit(camp, hearing, ear, other)) {
                    sum += camp.useOf(other) * camp.costOf(other);
                }
            }
            int all = usesThatFit(camp, hearing, ear);
            return all > 0 ? sum / all : 0;
        }

        static int riskiest(Camp camp, Hearing hearing, int ear) {
            int worst = NONE;
            int greatest = 0;
            for (int call = 0; call < camp.calls; call++) {
                int risk = riskOf(camp, hearing, call, ear);
                if (worst == NONE || risk > greatest) {
                    worst = call;
                    greatest = risk;
                }
            }
            return worst;
        }

        /** Bits 0 to 4: a NOTE may come next, 5: one that is GONE, 6: the end. */
        static int nextBits(Camp camp, Hearing hearing, int ear) {
            int bits = 0;
            for (int call = 0; call < camp.calls; call++) {
                if (isFit(camp, hearing, ear, call)) {
                    bits |= 1 << nextBit(camp, hearing.size, ear, call);
                }
            }
            return bits;
        }

        private static int nextBit(Camp camp, int i, int ear, int call) {
            if (!camp.isNoteOf(call, i)) {
                return 6;
            }
            int note = noteByEar(camp, call, ear, i);
            return note == Hearing.GONE ? 5 : note;
        }

        private static boolean areMixed(Camp camp, Hearing hearing, int ear, int call, int other) {
            hearing.takeCall(camp, call, ear);
            return isFit(camp, hearing, ear, other);
        }

        static int countMixed(Camp camp, Hearing hearing, int ear) {
            int count = 0;
            for (int call = 0; call < camp.calls; call++) {
                for (int other = call + 1; other < camp.calls; other++) {
                    if (areMixed(camp, hearing, ear, call, other)) {
                        count++;
                    }
                }
            }
            return count;
        }

        static int firstMixed(Camp camp, Hearing hearing, int ear) {
            for (int call = 0; call < camp.calls; call++) {
                for (int other = call + 1; other < camp.calls; other++) {
                    if (areMixed(camp, hearing, ear, call, other)) {
                        return 100 * call + other;
                    }
                }
            }
            return NONE;
        }

        /** In how many places a CALL differs from a HEARING: one that only one of them has, too. */
        static int differences(Camp camp, Hearing hearing, int call) {
            int size = camp.sizeOf(call);
            int count = Math.abs(size - hearing.size);
            for (int i = 0; i < size && i < hearing.size; i++) {
                int told = hearing.noteAt(i);
                if (told != Hearing.GONE && told != camp.noteAt(call, i)) {
                    count++;
                }
            }
            return count;
        }

        static int nearestCall(Camp camp, Hearing hearing) {
            int best = NONE;
            int fewest = 0;
            for (int call = 0; call < camp.calls; call++) {
                int count = differences(camp, hearing, call);
                if (best == NONE || count < fewest) {
                    best = call;
                    fewest = count;
                }
            }
            return best;
        }

        static int whenSure(Camp camp, Hearing hearing, int ear) {
            int all = hearing.size;
            for (int n = 0; n <= all; n++) {
                hearing.cutTo(n, false);
                int guessed = guessOf(camp, hearing, ear);
                if (guessed != NONE && likelyOf(camp, hearing, ear, guessed) >= camp.sure) {
                    return n;
                }
            }
            return NONE;
        }
    }

    /** How alike CALLS are, packed, so that all places of two are compared at once. */
    private static final class Likeness {
        private static final int NOTE_COUNT = 5;
        private static final int LOWEST_BITS = 0x249249;

        private final int[] tooNear = new int[Camp.MOST_CALLS];

        /** APART: places (of 3 bits) that differ in any bit. */
        static int distance(int packed, int other) {
            int bits = packed ^ other;
            return Integer.bitCount((bits | (bits >> 1) | (bits >> 2)) & LOWEST_BITS);
        }

        static int sameStart(Camp camp, int call, int other) {
            int size = Math.min(camp.sizeOf(call), camp.sizeOf(other));
            for (int i = 0; i < size; i++) {
                if (camp.noteAt(call, i) != camp.noteAt(other, i)) {
                    return i;
                }
            }
            return size;
        }

        static int countTwins(Camp camp) {
            int count = 0;
            for (int call = 0; call < camp.calls; call++) {
                if (!isClear(camp, camp.packedOf(call), 1, call)) {
                    count++;
                }
            }
            return count;
        }

        /** 100 times the lesser CALL and the other. */
        static int nearestPair(Camp camp) {
            int best = NONE;
            int least = 0;
            for (int call = 0; call < camp.calls; call++) {
                for (int other = call + 1; other < camp.calls; other++) {
                    int far = distance(camp.packedOf(call), camp.packedOf(other));
                    if (best == NONE || far < least) {
                        best = 100 * call + other;
                        least = far;
                    }
                }
            }
            return best;
        }

        static int pairDistance(Camp camp, int pair) {
            return distance(camp.packedOf(pair / 100), camp.packedOf(pair % 100));
        }

        /** Whether what is packed is d APART at least from all CALLS but one (NONE: from all). */
        private static boolean isClear(Camp camp, int packed, int d, int but) {
            for (int call = 0; call < camp.calls; call++) {
                if (call != but && distance(packed, camp.packedOf(call)) < d) {
                    return false;
                }
            }
            return true;
        }

        private static int countRows(int n) {
            int count = 1;
            for (int i = 0; i < n; i++) {
                count *= NOTE_COUNT;
            }
            return count;
        }

        /** The row of n NOTES that a number to base 5 is. */
        private static int packedRow(int number, int n) {
            int packed = 0;
            int rest = number;
            for (int i = n - 1; i >= 0; i--) {
                packed |= Camp.packedNote(rest % NOTE_COUNT, i);
                rest /= NOTE_COUNT;
            }
            return packed;
        }

        static int firstFresh(Camp camp, int n, int d) {
            int rows = countRows(n);
            for (int number = 0; number < rows; number++) {
                if (isClear(camp, packedRow(number, n), d, NONE)) {
                    return number;
                }
            }
            return NONE;
        }

        static int fewestChanges(Camp camp, int call, int d) {
            int size = camp.sizeOf(call);
            int rows = countRows(size);
            int fewest = NONE;
            for (int number = 0; number < rows; number++) {
                int packed = packedRow(number, size);
                int changes = distance(packed, camp.packedOf(call));
                if ((fewest == NONE || changes < fewest) && isClear(camp, packed, d, call)) {
                    fewest = changes;
                }
            }
            return fewest;
        }

        /** KEEP by d: the set as bits. */
        int bestSet(Camp camp, int d) {
            findTooNear(camp, d);
            int best = 0;
            int most = 0;
            for (int set = 1; set < 1 << camp.calls; set++) {
                int sum = usesIfKept(camp, set);
                if (sum > most) {
                    best = set;
                    most = sum;
                }
            }
            return best;
        }

        private void findTooNear(Camp camp, int d) {
            for (int call = 0; call < camp.calls && call < tooNear.length; call++) {
                int near = 0;
                for (int other = 0; other < camp.calls; other++) {
                    if (other != call && distance(camp.packedOf(call), camp.packedOf(other)) < d) {
                        near |= 1 << other;
                    }
                }
                tooNear[call] = near;
            }
        }

        /** USES of a set together, 0 if two of it are too near. */
        private int usesIfKept(Camp camp, int set) {
            int sum = 0;
            for (int call = 0; call < camp.calls && call < tooNear.length; call++) {
                if ((set >> call & 1) == 1) {
                    if ((tooNear[call] & set) != 0) {
                        return 0;
                    }
                    sum += camp.useOf(call);
                }
            }
            return sum;
        }
    }

    /** The MEN, as a CALL is sounded: what each takes it for, and what he does. */
    private static final class Crowd {
        private static final int SURE_STEP = 10;

        private final int[] guesses = new int[Camp.MOST_MEN];
        private final int[] likelies = new int[Camp.MOST_MEN];
        private final int[] deeds = new int[Camp.MOST_MEN];
        private final int[] tally = new int[Camp.MOST_CALLS];
        private int men = 0;

        void hearAndDo(Camp camp, Hearing hearing, int call) {
            hearAll(camp, hearing, call);
            doAll(camp, camp.sure);
        }

        private void hearAll(Camp camp, Hearing hearing, int call) {
            men = Math.max(0, Math.min(camp.men, Camp.MOST_MEN));
            for (int man = 0; man < men; man++) {
                int ear = camp.earOfMan(man);
                hearing.takeCall(camp, call, ear);
                guesses[man] = Sense.guessOf(camp, hearing, ear);
                likelies[man] = Sense.perThousand(
                    camp.useOf(guesses[man]), Sense.usesThatFit(camp, hearing, ear));
            }
        }

        private void doAll(Camp camp, int sure) {
            Arrays.fill(tally, 0);
            for (int man = 0; man < men; man++) {
                deeds[man] = guesses[man];
                if (likelies[man] < sure && camp.lookOf(man) == 1) {
                    int common = mostDone();
                    if (common != NONE) {
                        deeds[man] = common;
                    }
                }
                countDeed(deeds[man]);
            }
        }

        private void countDeed(int call) {
            if (call >= 0 && call < tally.length) {
                tally[call]++;
            }
        }

        /** What most MEN counted so far do, of several the least, or NONE. */
        private int mostDone() {
            int best = NONE;
            int most = 0;
            for (int call = 0; call < tally.length; call++) {
                if (tally[call] > most) {
                    best = call;
                    most = tally[call];
                }
            }
            return best;
        }

        int deedOf(int man) {
            return man >= 0 && man < men && man < deeds.length ? deeds[man] : NONE;
        }

        int countDoing(int call) {
            int count = 0;
            for (int man = 0; man < men; man++) {
                if (deedOf(man) == call) {
                    count++;
                }
            }
            return count;
        }

        int firstNotDoing(int call) {
            for (int man = 0; man < men; man++) {
                if (deedOf(man) != NONE && deedOf(man) != call) {
                    return man;
                }
            }
            return NONE;
        }

        /** MEN (bits) who do another CALL than their own GUESS. */
        int notByGuess() {
            int bits = 0;
            for (int man = 0; man < men; man++) {
                if (deeds[man] != guesses[man]) {
                    bits |= 1 << man;
                }
            }
            return bits;
        }

        int leastSure(Camp camp, Hearing hearing, int call) {
            hearAll(camp, hearing, call);
            for (int sure = 0; sure <= 1000; sure += SURE_STEP) {
                doAll(camp, sure);
                if (countDoing(call) == men) {
                    return sure;
                }
            }
            return NONE;
        }
    }

    /** THE TAPE, and the TOKEN that stands next on it. */
    private static final class Tape {
        static final int MOST_LETTER = 255;
        private static final int MOST_BYTES = 250;
        private static final int MOST_DIGITS = 4;
        private static final char SIGN = ';';
        private static final int NO_BYTE = -1;

        private final int[] bytes = new int[MOST_BYTES];
        int size = 0;
        int start = 0;
        private int end = 0;

        boolean hasRoom() {
            return size < bytes.length;
        }

        int append(int letter) {
            if (size >= 0 && size < bytes.length) {
                bytes[size] = letter;
                size++;
            }
            return size;
        }

        /** Its size ahead of that. */
        int empty() {
            int old = size;
            size = 0;
            start = 0;
            end = 0;
            return old;
        }

        private int byteAt(int i) {
            return i >= 0 && i < size && i < bytes.length ? bytes[i] : NO_BYTE;
        }

        private static boolean isLetter(int b) {
            return b >= 'a' && b <= 'z';
        }

        private static boolean isDigit(int b) {
            return b >= '0' && b <= '9';
        }

        void toFirstToken() {
            end = 0;
            toNextToken();
        }

        /** To the next TOKEN; behind the last one start is THE TAPE's size. */
        void toNextToken() {
            start = end;
            while (start < size && byteAt(start) == ' ') {
                start++;
            }
            end = start;
            if (isLetter(byteAt(start))) {
                while (end < size && isLetter(byteAt(end))) {
                    end++;
                }
            } else if (isDigit(byteAt(start))) {
                while (end < size && isDigit(byteAt(end))) {
                    end++;
                }
            } else if (byteAt(start) == SIGN) {
                end++;
            }
        }

        boolean isAtEnd() {
            return start >= size;
        }

        boolean isAtSign() {
            return byteAt(start) == SIGN;
        }

        boolean isAtWord(String word) {
            if (end - start != word.length()) {
                return false;
            }
            for (int i = 0; i < word.length(); i++) {
                if (byteAt(start + i) != word.charAt(i)) {
                    return false;
                }
            }
            return true;
        }

        /** How many NOTES the TOKEN is as a T, 0 if it is none. */
        int countTextNotes() {
            int count = end - start;
            if (count > Camp.MOST_NOTES) {
                return 0;
            }
            for (int i = 0; i < count; i++) {
                if (!Camp.isNote(textNote(i))) {
                    return 0;
                }
            }
            return count;
        }

        int textNote(int i) {
            return byteAt(start + i) - 'a';
        }

        /** The NUMBER that the TOKEN is, NONE if it is none or too long. */
        int numberHere() {
            if (!isDigit(byteAt(start)) || end - start > MOST_DIGITS) {
                return NONE;
            }
            int number = 0;
            for (int i = start; i < end; i++) {
                number = 10 * number + byteAt(i) - '0';
            }
            return number;
        }
    }

    /** Reads a CAMP. Where a STATEMENT can't be read, THE TAPE stays at the TOKEN that is its FAULT. */
    private static final class Reader {
        private static final int FAULTS = -20;

        /** How many STATEMENTS, or -20 less the FAULT. */
        static int readCamp(Tape tape, Camp camp) {
            tape.toFirstToken();
            for (int count = 1; count <= tape.size; count++) {
                if (!isStatementRead(tape, camp)) {
                    return FAULTS - tape.start;
                }
                if (tape.isAtEnd()) {
                    return count;
                }
                if (!tape.isAtSign()) {
                    return FAULTS - tape.start;
                }
                tape.toNextToken();
            }
            return FAULTS - tape.start;
        }

        private static boolean isStatementRead(Tape tape, Camp camp) {
            if (tape.isAtWord("call")) {
                return camp.hasRoomForCall() && isCallRead(tape, camp);
            }
            if (tape.isAtWord("ear")) {
                return camp.hasRoomForEar() && isEarRead(tape, camp);
            }
            if (tape.isAtWord("man")) {
                return camp.hasRoomForMan() && isManRead(tape, camp);
            }
            if (tape.isAtWord("sure")) {
                return isSureRead(tape, camp);
            }
            if (tape.isAtWord("lost")) {
                return isLostRead(tape, camp);
            }
            return tape.isAtWord("use") && isUseRead(tape, camp);
        }

        private static boolean isCallRead(Tape tape, Camp camp) {
            tape.toNextToken();
            int size = tape.countTextNotes();
            if (size == 0) {
                return false;
            }
            int number = camp.addCall(1, 0);
            for (int i = 0; i < size; i++) {
                camp.addNote(tape.textNote(i));
            }
            tape.toNextToken();
            int use = tape.numberHere();
            if (!Camp.isUse(use)) {
                return false;
            }
            camp.changeUse(number, use);
            tape.toNextToken();
            int cost = tape.numberHere();
            if (!Camp.isCost(cost)) {
                return false;
            }
            camp.changeCost(number, cost);
            tape.toNextToken();
            return true;
        }

        private static boolean isEarRead(Tape tape, Camp camp) {
            tape.toNextToken();
            int kind = tape.numberHere();
            if (!Kind.isKind(kind)) {
                return false;
            }
            tape.toNextToken();
            int a = tape.numberHere();
            if (!Kind.isStrength(a)) {
                return false;
            }
            camp.addEar(kind, a);
            tape.toNextToken();
            return true;
        }

        private static boolean isManRead(Tape tape, Camp camp) {
            tape.toNextToken();
            int ear = tape.numberHere();
            if (!camp.isEar(ear)) {
                return false;
            }
            tape.toNextToken();
            int look = tape.numberHere();
            if (!Camp.isLook(look)) {
                return false;
            }
            camp.addMan(ear, look);
            tape.toNextToken();
            return true;
        }

        private static boolean isSureRead(Tape tape, Camp camp) {
            tape.toNextToken();
            int sure = tape.numberHere();
            if (!Camp.isSure(sure)) {
                return false;
            }
            camp.sure = sure;
            tape.toNextToken();
            return true;
        }

        private static boolean isLostRead(Tape tape, Camp camp) {
            tape.toNextToken();
            int lost = tape.numberHere();
            if (!Camp.isLost(lost)) {
                return false;
            }
            camp.lost = lost;
            tape.toNextToken();
            return true;
        }

        private static boolean isUseRead(Tape tape, Camp camp) {
            tape.toNextToken();
            int call = tape.numberHere();
            if (!camp.isCall(call)) {
                return false;
            }
            tape.toNextToken();
            int use = tape.numberHere();
            if (!Camp.isUse(use)) {
                return false;
            }
            camp.changeUse(call, use);
            tape.toNextToken();
            return true;
        }
    }
}
