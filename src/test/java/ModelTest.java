import java.lang.reflect.Method;
import java.util.ArrayList;
import java.util.HashMap;
import java.util.List;
import java.util.Map;
import java.util.Random;

/** Runs of 512 drawn calls, each answered by the class as by the Model. */
public final class ModelTest {
    private static final int RUNS = 400;
    private static final int CALLS = 512;

    /** Each call, how often it is drawn, and what its arguments are; see argument(). */
    private static final String[] PLAN = {
        "row 12 skz", "set 60 siv", "copy 10 ssiim", "element 10 si", "holds 4 s", "show 10 sE", "says 14 sk",
        "call 24 snux", "ear 6 ka", "man 8 el", "tell 6 cly", "ask 4 lq", "feed 6 b", "wipe 1 ", "camp 2 ",
        "callOf 10 cw", "earOf 3 el", "manOf 3 ml", "heard 12 cei", "fits 12 snoec", "likely 12 snoec",
        "guess 12 snoe", "apart 5 cc", "known 12 ce", "earFor 5 c", "mean 5 e", "worst 5 e", "next 14 sne",
        "alikeFirst 5 cc", "notes 3 d", "twins 2 ", "change 3 cd", "alike 4 l", "mixed 5 el", "fresh 4 nd",
        "keep 1 d", "does 8 cm", "right 5 c", "leads 5 c", "follows 8 c", "sureFor 4 c", "risk 6 ce", "learn 5 c",
        "nearest 12 snl", "judge 8 sz", "when 14 sne", "sound 20 cs", "days 2 t", "drop 2 ", "seed 2 g",
        "image 2 ", "back 2 ", "status 20 w"};

    private static final Due DUE = new Due();
    private static final Map<String, Method> METHODS = new HashMap<>();

    private final Random random;
    private final boolean isWide;
    private final SoupOrHorses x = new SoupOrHorses();
    private final Model model = new Model();
    private final StringBuilder said = new StringBuilder();
    private int left = CALLS;
    private boolean isWrong = false;

    /** Each third run is a wide one: it begins with as many CALLS, EARS and MEN as can be, or nearly so. */
    private ModelTest(int run) {
        random = new Random(run);
        isWide = run % 3 == 2;
    }

    public static void main(String[] args) throws Exception {
        for (Method method : SoupOrHorses.class.getDeclaredMethods()) {
            METHODS.put(method.getName(), method);
        }
        DUE.same("calls of the plan", PLAN.length, 53);
        List<String> lots = new ArrayList<>();
        for (String line : PLAN) {
            for (int i = 0; i < Integer.parseInt(line.split(" ")[1]); i++) {
                lots.add(line);
            }
        }
        int runs = args.length > 0 ? Integer.parseInt(args[0]) : RUNS;
        boolean isWrong = false;
        for (int run = 0; run < runs && !isWrong; run++) {
            isWrong = new ModelTest(run).isWrong(lots);
        }
        DUE.end();
    }

    /** Whether a run of calls, till the first wrong one, has such a one. */
    private boolean isWrong(List<String> lots) throws Exception {
        if (isWide) {
            fill();
        } else {
            furnish();
        }
        while (left > 0 && !isWrong) {
            if (random.nextInt(60) == 0) {
                feedCamp();
            }
            if (random.nextInt(20) == 0) {
                hearing();
            }
            String[] plan = lots.get(random.nextInt(lots.size())).split(" ", -1);
            String letters = plan[2];
            long[] arguments = new long[letters.length()];
            for (int i = 0; i < arguments.length; i++) {
                arguments[i] = argument(letters.charAt(i));
            }
            both(plan[0], arguments);
        }
        return isWrong;
    }

    private void furnish() throws Exception {
        int furnished = random.nextInt(4);
        for (int i = 0; i < furnished && left > 100; i++) {
            feedCamp();
        }
    }

    /** Few NOTES and few USES, so that many CALLS are alike and many as likely. */
    private void fill() throws Exception {
        int noteKinds = 2 + random.nextInt(4);
        int mostUse = random.nextBoolean() ? 5 : 99;
        int longest = 2 + random.nextInt(7);
        both("row", 7, random.nextInt(4), 8);
        for (int call = 9 + random.nextInt(5); call > 0; call--) {
            for (int i = 0; i < 3; i++) {
                both("set", 7, random.nextInt(longest), random.nextInt(noteKinds));
            }
            int n = longest - (random.nextInt(3) == 0 ? random.nextInt(longest) : 0);
            both("call", 7, n, 1 + random.nextInt(mostUse), random.nextInt(100));
        }
        for (int ear = 5 + random.nextInt(2); ear > 0; ear--) {
            both("ear", random.nextInt(6), random.nextInt(longest));
        }
        for (int man = 7 + random.nextInt(3); man > 0; man--) {
            both("man", random.nextInt(6), random.nextInt(2));
        }
    }

    /** One call of both. */
    private void both(String name, long... arguments) throws Exception {
        if (left <= 0 || isWrong) {
            return;
        }
        left--;
        Method method = METHODS.get(name);
        Object[] boxed = new Object[arguments.length];
        said.append(name).append('(');
        for (int i = 0; i < boxed.length; i++) {
            Class<?> type = method.getParameterTypes()[i];
            boxed[i] = type == long.class ? (Object) arguments[i]
                : type == boolean.class ? (Object) ((int) arguments[i] != 0) : (Object) (int) arguments[i];
            said.append(i == 0 ? "" : ", ").append(boxed[i]);
        }
        long got = ((Number) method.invoke(x, boxed)).longValue();
        long want = model.answer(name, arguments);
        said.append(") ").append(got).append('\n');
        isWrong = got != want;
        DUE.same(isWrong ? said.toString() : name, got, want);
    }

    private void feedCamp() throws Exception {
        both("wipe");
        StringBuilder text = new StringBuilder();
        int count = 1 + random.nextInt(6);
        for (int i = 0; i < count; i++) {
            text.append(i == 0 ? "" : ";").append(statement());
        }
        if (random.nextInt(4) == 0) {
            char[] spoilers = {' ', ';', 'a', 'f', '0', '9', ',', 'A', (char) 0, (char) 255};
            int place = random.nextInt(text.length() + 1);
            text.insert(place, spoilers[random.nextInt(spoilers.length)]);
        }
        if (random.nextInt(8) == 0) {
            text.setLength(random.nextInt(text.length() + 1));
        }
        for (int i = 0; i < text.length(); i++) {
            both("feed", text.charAt(i));
        }
        both("camp");
    }

    private String statement() {
        String blank = random.nextInt(6) == 0 ? "  " : " ";
        switch (random.nextInt(9)) {
            case 0:
                return "ear" + blank + random.nextInt(6) + " " + random.nextInt(4);
            case 1:
            case 2:
                return "man " + random.nextInt(3) + blank + random.nextInt(2);
            case 3:
                return "sure" + blank + random.nextInt(1005);
            case 4:
                return "lost " + random.nextInt(102);
            case 5:
                return "use " + random.nextInt(4) + " " + random.nextInt(101);
            default:
                StringBuilder text = new StringBuilder("call").append(blank);
                int size = 1 + random.nextInt(random.nextInt(10) == 0 ? 9 : 5);
                for (int i = 0; i < size; i++) {
                    text.append((char) ('a' + random.nextInt(random.nextInt(30) == 0 ? 6 : 3)));
                }
                return text + " " + (1 + random.nextInt(99)) + " " + random.nextInt(100);
        }
    }

    /** A ROW of what may be heard. */
    private void hearing() throws Exception {
        int s = random.nextInt(8);
        int n = random.nextInt(9);
        both("row", s, random.nextInt(4), n);
        for (int i = 0; i < n; i++) {
            int[] heard = {0, 0, 1, 1, 2, 2, 3, 4, 9};
            both("set", s, i, heard[random.nextInt(heard.length)]);
        }
    }

    private long argument(char letter) {
        if (random.nextInt(60) == 0) {
            long[] odd = {-1, -2, Integer.MIN_VALUE, Integer.MAX_VALUE, 1L << 32, 12, 100, 1001};
            return odd[random.nextInt(odd.length)];
        }
        switch (letter) {
            case 's':
                return random.nextInt(8);
            case 'k':
                return random.nextInt(6);
            case 'e':
                return random.nextInt(isWide ? 6 : 3);
            case 'E':
                return random.nextInt(5) - 1;
            case 'c':
                return random.nextInt(isWide ? 12 : 6);
            case 'm':
                return random.nextInt(isWide ? 8 : 4);
            case 'l':
            case 'o':
                return random.nextInt(2);
            case 'a':
                return random.nextInt(5);
            case 'd':
                return random.nextInt(random.nextInt(4) == 0 ? 9 : 5);
            case 'n':
                return random.nextInt(random.nextInt(6) == 0 ? 9 : 6);
            case 'i':
                return random.nextInt(8);
            case 'z':
                return random.nextInt(10) == 0 ? random.nextInt(42) : random.nextInt(9);
            case 'v':
                return value();
            case 'u':
                return random.nextInt(101);
            case 'x':
            case 'y':
                return random.nextInt(100);
            case 'q':
                return random.nextInt(10) == 0 ? random.nextInt(1002) : random.nextInt(101);
            case 'b':
                return random.nextInt(256);
            case 'w':
                return random.nextInt(19);
            case 't':
                return 1 + random.nextInt(20);
            default:
                return random.nextInt();
        }
    }

    private long value() {
        switch (random.nextInt(10)) {
            case 0:
                return random.nextLong();
            case 1:
                return random.nextInt(600) - 300;
            case 2:
                return 9;
            default:
                return random.nextInt(5);
        }
    }
}
