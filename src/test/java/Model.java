import java.util.ArrayList;
import java.util.Arrays;
import java.util.Comparator;
import java.util.HashMap;
import java.util.List;
import java.util.Map;
import java.util.stream.IntStream;

/**
 * The document told a second time, as slow and as plain as can be: NOTES are texts of digits, and
 * what is refused is thrown. ModelTest holds the class against it.
 */
final class Model {
    private static final class Refusal extends RuntimeException {
        private static final long serialVersionUID = 1;
        final int why;

        Refusal(int why) {
            this.why = why;
        }
    }

    private record Call(String notes, int use, int cost) {
    }

    private record Ear(int kind, int a) {
    }

    private record Man(int ear, int look) {
    }

    private record Kept(List<Call> calls, List<Ear> ears, List<Man> men, int sure, int lost, int seed) {
    }

    private record Content(int sort, long[] elements, int ear) {
    }

    private List<Call> calls = new ArrayList<>();
    private List<Ear> ears = new ArrayList<>();
    private List<Man> men = new ArrayList<>();
    private int sure = 600;
    private int lost = 20;
    private int seed = 1;
    private Kept kept = null;
    private final Map<Integer, Content> shelves = new HashMap<>();
    private String tape = "";
    private final int[] refusals = new int[7];

    /** What a call of the face answers. */
    long answer(String name, long... v) {
        int[] w = new int[v.length];
        for (int i = 0; i < v.length; i++) {
            w[i] = (int) v[i];
        }
        try {
            return isShelfCall(name) ? shelfAnswer(name, v, w) : isFirstHalf(name) ? first(name, w) : second(name, w);
        } catch (Refusal refusal) {
            refusals[refusal.why <= -20 ? 2 : -refusal.why]++;
            return refusal.why;
        }
    }

    private static boolean isShelfCall(String name) {
        return List.of("row", "set", "copy", "element", "holds", "show", "says", "call").contains(name);
    }

    private static boolean isFirstHalf(String name) {
        return List.of("ear", "man", "tell", "ask", "feed", "wipe", "camp", "callOf", "earOf", "manOf", "heard",
            "fits", "likely", "guess", "apart", "known", "earFor", "mean", "worst", "next").contains(name);
    }

    private long shelfAnswer(String name, long[] v, int[] w) {
        switch (name) {
            case "row":
                want(shelf(w[0]) && in(w[1], 0, 4) && in(w[2], 0, 40), -2);
                shelves.put(w[0], new Content(w[1], new long[w[2]], -1));
                return 1;
            case "set":
                want(shelf(w[0]), -2);
                Content row = rowIn(w[0]);
                want(in(w[1], 0, row.elements.length - 1), -2);
                row.elements[w[1]] = switch (row.sort) {
                    case 0 -> (v[2] << 56) >> 56;
                    case 1 -> (v[2] << 48) >> 48;
                    case 2 -> (v[2] << 32) >> 32;
                    case 3 -> v[2];
                    default -> v[2] == 0 ? 0 : 1;
                };
                return 1;
            case "copy":
                return copy(w[0], w[1], w[2], w[3], w[4]);
            case "element":
                Content content = shelves.get(w[0]);
                return content == null || content.ear >= 0 || !in(w[1], 0, content.elements.length - 1)
                    ? 0 : content.elements[w[1]];
            case "holds":
                Content held = shelves.get(w[0]);
                return held == null ? -1 : held.ear >= 0 ? 10 + held.ear : held.sort;
            case "show":
                want(shelf(w[0]) && in(w[1], -1, ears.size() - 1), -2);
                shelves.remove(w[0]);
                if (w[1] >= 0) {
                    shelves.put(w[0], new Content(-1, new long[0], w[1]));
                }
                return 1;
            case "says":
                return says(w[0], w[1]);
            default:
                want(shelf(w[0]) && in(w[1], 1, 8) && in(w[2], 1, 99) && in(w[3], 0, 99), -2);
                long[] all = rowIn(w[0]).elements;
                want(all.length >= w[1], -2);
                StringBuilder notes = new StringBuilder();
                for (int i = 0; i < w[1]; i++) {
                    want(all[i] >= 0 && all[i] <= 4, -2);
                    notes.append(all[i]);
                }
                want(calls.size() < 12, -6);
                calls.add(new Call(notes.toString(), w[2], w[3]));
                return calls.size() - 1;
        }
    }

    private long copy(int p, int q, int i, int j, int n) {
        want(shelf(p) && shelf(q), -2);
        Content from = shelves.get(p);
        Content to = shelves.get(q);
        want((from == null || from.ear < 0) && (to == null || to.ear < 0), -3);
        want(from == null || to == null || from.sort == to.sort, -3);
        want(from != null && to != null, -4);
        want(i >= 0 && j >= 0 && n >= 0 && (long) i + n <= from.elements.length
            && (long) j + n <= to.elements.length, -2);
        long[] taken = Arrays.copyOfRange(from.elements, i, i + n);
        for (int k = 0; k < n; k++) {
            to.elements[j + k] = taken[k];
        }
        return n;
    }

    private long says(int s, int kind) {
        want(shelf(s) && in(kind, 0, 5), -2);
        Content content = shelves.get(s);
        want(content == null || content.ear >= 0, -3);
        want(content != null, -4);
        Ear ear = ears.get(content.ear);
        int[] above = {-1, 0, 0, 1, 2, 0};
        boolean is = false;
        for (int k = ear.kind; k >= 0; k = above[k]) {
            is |= k == kind;
        }
        want(is, -3);
        String eight = heard(new Call("40123401", 1, 1), ear);
        return switch (kind) {
            case 0 -> ear.a;
            case 1, 3 -> eight.chars().filter(c -> c == '9').count();
            case 2, 4 -> eight.charAt(0) - '0';
            default -> IntStream.range(1, 8).filter(i -> eight.charAt(i) == "40123401".charAt(i - 1)).count();
        };
    }

    private long first(String name, int[] w) {
        switch (name) {
            case "ear":
                want(in(w[0], 0, 5) && in(w[1], 0, 9), -2);
                want(ears.size() < 6, -6);
                ears.add(new Ear(w[0], w[1]));
                return ears.size() - 1;
            case "man":
                want(ear(w[0]) && in(w[1], 0, 1), -2);
                want(men.size() < 8, -6);
                men.add(new Man(w[0], w[1]));
                return men.size() - 1;
            case "tell":
                want(call(w[0]) && in(w[1], 0, 1) && in(w[2], 1 - w[1], 99), -2);
                Call told = calls.get(w[0]);
                calls.set(w[0], new Call(told.notes, w[1] == 0 ? w[2] : told.use, w[1] == 1 ? w[2] : told.cost));
                return w[1] == 0 ? told.use : told.cost;
            case "ask":
                want(in(w[0], 0, 1) && in(w[1], 0, w[0] == 0 ? 1000 : 100), -2);
                int ahead = w[0] == 0 ? sure : lost;
                sure = w[0] == 0 ? w[1] : sure;
                lost = w[0] == 1 ? w[1] : lost;
                return ahead;
            case "feed":
                want(in(w[0], 0, 255), -2);
                want(tape.length() < 250, -6);
                tape += (char) w[0];
                return tape.length();
            case "wipe":
                int size = tape.length();
                tape = "";
                return size;
            case "camp":
                return read();
            case "callOf":
                want(call(w[0]), -2);
                Call call = calls.get(w[0]);
                want(in(w[1], 0, 2) || in(w[1], 10, 9 + call.notes.length()), -2);
                return w[1] == 0 ? call.notes.length() : w[1] == 1 ? call.use : w[1] == 2 ? call.cost
                    : call.notes.charAt(w[1] - 10) - '0';
            case "earOf":
                want(ear(w[0]) && in(w[1], 0, 1), -2);
                return w[1] == 0 ? ears.get(w[0]).kind : ears.get(w[0]).a;
            case "manOf":
                want(in(w[0], 0, men.size() - 1) && in(w[1], 0, 1), -2);
                return w[1] == 0 ? men.get(w[0]).ear : men.get(w[0]).look;
            default:
                return hearing(name, w);
        }
    }

    private long hearing(String name, int[] w) {
        switch (name) {
            case "heard":
                want(call(w[0]) && ear(w[1]) && in(w[2], 0, calls.get(w[0]).notes.length() - 1), -2);
                return heard(calls.get(w[0]), ears.get(w[1])).charAt(w[2]) - '0';
            case "fits":
                String fitted = told(w[0], w[1], ear(w[3]) && call(w[4]));
                return fit(fitted, w[2] != 0, w[3]).contains(w[4]) ? 1 : 0;
            case "likely":
                String heard = told(w[0], w[1], ear(w[3]) && call(w[4]));
                return likely(heard, w[2] != 0, w[3], w[4]);
            case "guess":
                return guess(told(w[0], w[1], ear(w[3])), w[2] != 0, w[3]);
            case "apart":
                want(call(w[0]) && call(w[1]), -2);
                return apart(calls.get(w[0]).notes, calls.get(w[1]).notes);
            case "known":
                want(call(w[0]) && ear(w[1]), -2);
                return known(w[0], w[1]);
            case "earFor":
                want(call(w[0]), -2);
                want(!ears.isEmpty(), -5);
                return IntStream.range(0, ears.size()).boxed()
                    .min(Comparator.comparing(e -> behind(w[0], e))).orElseThrow();
            case "mean":
                want(ear(w[0]), -2);
                want(!calls.isEmpty(), -5);
                return IntStream.range(0, calls.size()).map(c -> 1000 * calls.get(c).use * behind(c, w[0])).sum()
                    / calls.stream().mapToInt(Call::use).sum();
            case "worst":
                want(ear(w[0]), -2);
                want(!calls.isEmpty(), -5);
                return IntStream.range(0, calls.size()).boxed()
                    .min(Comparator.comparing(c -> -risk(c, w[0]))).orElseThrow();
            default:
                String row = told(w[0], w[1], ear(w[2]));
                int bits = 0;
                for (int c : fit(row, false, w[2])) {
                    String whole = heard(calls.get(c), ears.get(w[2])) + "6";
                    bits |= 1 << Math.min(whole.charAt(w[1]) - '0', whole.charAt(w[1]) == '9' ? 5 : 6);
                }
                return bits;
        }
    }

    private long second(String name, int[] w) {
        switch (name) {
            case "alikeFirst":
                want(call(w[0]) && call(w[1]), -2);
                int same = 0;
                while (same < 8 && (calls.get(w[0]).notes + "x").charAt(same)
                    == (calls.get(w[1]).notes + "y").charAt(same)) {
                    same++;
                }
                return same;
            case "notes":
                want(in(w[0], 0, 4), -2);
                return calls.stream().flatMapToInt(c -> c.notes.chars()).filter(c -> c == '0' + w[0]).count();
            case "twins":
                return calls.stream().filter(c -> calls.stream().filter(d -> d.notes.equals(c.notes)).count() > 1)
                    .count();
            case "change":
                return change(w[0], w[1]);
            case "alike":
                return alike(w[0]);
            case "mixed":
                return mixed(w[0], w[1]);
            case "fresh":
                want(in(w[0], 1, 5) && in(w[1], 0, 8), -2);
                List<String> rows = rows(w[0]);
                return IntStream.range(0, rows.size()).filter(i -> clear(rows.get(i), w[1], -1)).findFirst().orElse(-1);
            case "keep":
                return keep(w[0]);
            case "does":
                want(call(w[0]) && in(w[1], 0, men.size() - 1), -2);
                return deeds(w[0], sure).get(w[1]);
            case "right":
                want(call(w[0]), -2);
                return deeds(w[0], sure).stream().filter(c -> c == w[0]).count();
            case "leads":
                want(call(w[0]), -2);
                List<Integer> done = deeds(w[0], sure);
                return IntStream.range(0, men.size()).filter(m -> done.get(m) != w[0]).findFirst().orElse(-1);
            case "follows":
                want(call(w[0]), -2);
                List<Integer> does = deeds(w[0], sure);
                return IntStream.range(0, men.size()).filter(m -> does.get(m) != ownGuess(w[0], m))
                    .map(m -> 1 << m).sum();
            case "sureFor":
                want(call(w[0]), -2);
                return IntStream.rangeClosed(0, 100).map(i -> 10 * i)
                    .filter(n -> deeds(w[0], n).stream().allMatch(c -> c == w[0])).findFirst().orElse(-1);
            case "risk":
                want(call(w[0]) && ear(w[1]), -2);
                return risk(w[0], w[1]);
            case "learn":
                want(call(w[0]), -2);
                return IntStream.range(0, calls.size()).boxed()
                    .sorted(Comparator.comparing(c -> -calls.get(c).use * calls.get(c).cost)).toList().get(w[0]);
            default:
                return third(name, w);
        }
    }

    private long third(String name, int[] w) {
        switch (name) {
            case "nearest":
                String told = told(w[0], w[1], in(w[2], 0, 1));
                want(!calls.isEmpty(), -5);
                int call = nearest(told);
                return w[2] == 0 ? call : differ(calls.get(call).notes, told);
            case "judge":
                want(shelf(w[0]) && in(w[1], 0, 40), -2);
                long[] all = rowIn(w[0]).elements;
                want(w[1] <= all.length, -2);
                return IntStream.range(0, w[1]).filter(i -> !isHeard(all[i])).findFirst().orElse(-1);
            case "when":
                String row = told(w[0], w[1], ear(w[2]));
                return IntStream.rangeClosed(0, w[1])
                    .filter(n -> !fit(row.substring(0, n), false, w[2]).isEmpty())
                    .filter(n -> likely(row.substring(0, n), false, w[2],
                        guess(row.substring(0, n), false, w[2])) >= sure)
                    .findFirst().orElse(-1);
            case "sound":
                want(call(w[0]) && shelf(w[1]), -2);
                String left = sounded(calls.get(w[0]).notes);
                shelves.put(w[1], new Content(0, left.chars().mapToLong(c -> c - '0').toArray(), -1));
                return left.chars().filter(c -> c == '9').count();
            case "days":
                want(in(w[0], 1, 99), -2);
                want(!calls.isEmpty(), -5);
                int wrong = 0;
                for (int i = 0; i < w[0]; i++) {
                    int c = draw(calls.size());
                    wrong += nearest(sounded(calls.get(c).notes)) == c ? 0 : 1;
                }
                return wrong;
            case "drop":
                want(!calls.isEmpty(), -5);
                calls.remove(calls.size() - 1);
                return calls.size();
            case "seed":
                int old = seed;
                seed = w[0];
                return old;
            case "image":
                kept = new Kept(List.copyOf(calls), List.copyOf(ears), List.copyOf(men), sure, lost, seed);
                return 1;
            case "back":
                want(kept != null, -5);
                restore(kept);
                shelves.values().removeIf(content -> content.ear >= ears.size());
                return 1;
            default:
                return status(w[0]);
        }
    }

    private void restore(Kept from) {
        calls = new ArrayList<>(from.calls);
        ears = new ArrayList<>(from.ears);
        men = new ArrayList<>(from.men);
        sure = from.sure;
        lost = from.lost;
        seed = from.seed;
    }

    private int status(int what) {
        return switch (what) {
            case 0 -> calls.size();
            case 1 -> ears.size();
            case 2 -> men.size();
            case 3 -> calls.stream().mapToInt(c -> c.notes.length()).sum();
            case 4 -> calls.stream().mapToInt(Call::use).sum();
            case 5 -> sure;
            case 6 -> lost;
            case 7 -> tape.length();
            case 8 -> seed;
            case 9 -> shelves.size();
            case 10 -> (int) men.stream().filter(m -> m.look == 1).count();
            case 12, 13, 14, 15, 16 -> refusals[what - 10];
            default -> -1;
        };
    }

    // REFUSALS

    private static void want(boolean isSo, int why) {
        if (!isSo) {
            throw new Refusal(why);
        }
    }

    private static boolean in(int v, int least, int most) {
        return v >= least && v <= most;
    }

    private static boolean shelf(int s) {
        return in(s, 0, 7);
    }

    private boolean call(int c) {
        return in(c, 0, calls.size() - 1);
    }

    private boolean ear(int e) {
        return in(e, 0, ears.size() - 1);
    }

    private Content rowIn(int s) {
        Content content = shelves.get(s);
        want(content == null || content.ear < 0, -3);
        want(content != null, -4);
        return content;
    }

    private static boolean isHeard(long v) {
        return v >= 0 && v <= 4 || v == 9;
    }

    private String told(int s, int n, boolean isRestGood) {
        want(shelf(s) && in(n, 0, 8) && isRestGood, -2);
        long[] all = rowIn(s).elements;
        want(n <= all.length, -2);
        StringBuilder text = new StringBuilder();
        for (int i = 0; i < n; i++) {
            want(isHeard(all[i]), -5);
            text.append(all[i]);
        }
        return text.toString();
    }

    // WHAT IS HEARD

    private static String heard(Call call, Ear ear) {
        String notes = call.notes;
        int size = notes.length();
        String torn = "9".repeat(Math.min(ear.a, size)) + notes.substring(Math.min(ear.a, size));
        switch (ear.kind) {
            case 1:
                return torn;
            case 2:
                return notes.replace('4', '3');
            case 3:
                return torn.substring(0, size - 1) + "9";
            case 4:
                return notes.replace('4', '3').replace('0', '9');
            case 5:
                char[] echo = notes.toCharArray();
                for (int i = ear.a; i < size; i += ear.a + 1) {
                    echo[i] = notes.charAt(Math.max(i - 1, 0));
                }
                return new String(echo);
            default:
                return notes;
        }
    }

    /** The CALLS that FIT. */
    private List<Integer> fit(String row, boolean over, int ear) {
        List<Integer> found = new ArrayList<>();
        for (int c = 0; c < calls.size(); c++) {
            String own = heard(calls.get(c), ears.get(ear));
            boolean isLong = over ? own.length() == row.length() : own.length() >= row.length();
            if (isLong && agree(own.substring(0, row.length()), row)) {
                found.add(c);
            }
        }
        return found;
    }

    private static boolean agree(String own, String row) {
        return IntStream.range(0, row.length()).allMatch(
            i -> own.charAt(i) == '9' || row.charAt(i) == '9' || own.charAt(i) == row.charAt(i));
    }

    private int uses(List<Integer> some) {
        return some.stream().mapToInt(c -> calls.get(c).use).sum();
    }

    private int likely(String row, boolean over, int ear, int call) {
        List<Integer> found = fit(row, over, ear);
        return found.contains(call) ? 1000 * calls.get(call).use / uses(found) : 0;
    }

    private int guess(String row, boolean over, int ear) {
        return fit(row, over, ear).stream().min(Comparator.comparing(c -> -calls.get(c).use)).orElse(-1);
    }

    private static int apart(String one, String other) {
        String a = (one + "........").substring(0, 8);
        String b = (other + "........").substring(0, 8);
        return (int) IntStream.range(0, 8).filter(i -> a.charAt(i) != b.charAt(i)).count();
    }

    private int known(int call, int ear) {
        String own = heard(calls.get(call), ears.get(ear));
        for (int n = 0; n <= own.length() + 1; n++) {
            boolean over = n > own.length();
            if (fit(own.substring(0, Math.min(n, own.length())), over, ear).size() == 1) {
                return n;
            }
        }
        return -1;
    }

    private int behind(int call, int ear) {
        int known = known(call, ear);
        return known < 0 ? calls.get(call).notes.length() + 2 : known;
    }

    private int risk(int call, int ear) {
        List<Integer> found = fit(heard(calls.get(call), ears.get(ear)), true, ear);
        int sum = found.stream().filter(c -> c != call).mapToInt(c -> calls.get(c).use * calls.get(c).cost).sum();
        return sum / uses(found);
    }

    // WHAT COMES OF IT

    private static List<String> rows(int n) {
        List<String> all = new ArrayList<>();
        if (n == 0) {
            all.add("");
            return all;
        }
        for (String row : rows(n - 1)) {
            for (int note = 0; note < 5; note++) {
                all.add(row + note);
            }
        }
        return all;
    }

    private boolean clear(String row, int d, int but) {
        return IntStream.range(0, calls.size()).filter(c -> c != but).allMatch(
            c -> apart(row, calls.get(c).notes) >= d);
    }

    private int change(int call, int d) {
        want(call(call) && in(d, 0, 8), -2);
        String own = calls.get(call).notes;
        want(own.length() <= 5, -5);
        return rows(own.length()).stream().filter(row -> clear(row, d, call))
            .mapToInt(row -> apart(row, own)).min().orElse(-1);
    }

    private int alike(int what) {
        want(in(what, 0, 1), -2);
        want(calls.size() > 1, -5);
        int[] best = {99, 0};
        for (int i = 0; i < calls.size(); i++) {
            for (int j = i + 1; j < calls.size(); j++) {
                int far = apart(calls.get(i).notes, calls.get(j).notes);
                best = far < best[0] ? new int[] {far, 100 * i + j} : best;
            }
        }
        return what == 0 ? best[1] : best[0];
    }

    private int mixed(int ear, int what) {
        want(ear(ear) && in(what, 0, 1), -2);
        List<Integer> pairs = new ArrayList<>();
        for (int i = 0; i < calls.size(); i++) {
            for (int j : fit(heard(calls.get(i), ears.get(ear)), true, ear)) {
                if (j > i) {
                    pairs.add(100 * i + j);
                }
            }
        }
        return what == 0 ? pairs.size() : pairs.isEmpty() ? -1 : pairs.get(0);
    }

    private int keep(int d) {
        want(in(d, 0, 8), -2);
        int best = 0;
        for (int set = 0; set < 1 << calls.size(); set++) {
            int bits = set;
            List<Integer> some = IntStream.range(0, calls.size()).filter(c -> (bits >> c & 1) == 1).boxed().toList();
            boolean isFar = some.stream().allMatch(c -> some.stream().allMatch(
                e -> c.equals(e) || apart(calls.get(c).notes, calls.get(e).notes) >= d));
            int sum = uses(some);
            int most = best >>> 12;
            best = isFar && sum > most ? sum << 12 | set : best;
        }
        return best & 4095;
    }

    private int ownGuess(int call, int man) {
        int ear = men.get(man).ear;
        return guess(heard(calls.get(call), ears.get(ear)), true, ear);
    }

    private List<Integer> deeds(int call, int by) {
        List<Integer> done = new ArrayList<>();
        for (int m = 0; m < men.size(); m++) {
            int ear = men.get(m).ear;
            int guess = ownGuess(call, m);
            boolean isSure = likely(heard(calls.get(call), ears.get(ear)), true, ear, guess) >= by;
            boolean looks = men.get(m).look == 1 && !done.isEmpty();
            done.add(isSure || !looks ? guess : most(done));
        }
        return done;
    }

    private static int most(List<Integer> done) {
        return done.stream().min(Comparator.<Integer, Long>comparing(
            c -> -done.stream().filter(c::equals).count()).thenComparing(c -> c)).orElseThrow();
    }

    private static int differ(String own, String told) {
        int count = Math.abs(own.length() - told.length());
        for (int i = 0; i < Math.min(own.length(), told.length()); i++) {
            count += told.charAt(i) == '9' || told.charAt(i) == own.charAt(i) ? 0 : 1;
        }
        return count;
    }

    private int nearest(String told) {
        return IntStream.range(0, calls.size()).boxed()
            .min(Comparator.comparing(c -> differ(calls.get(c).notes, told))).orElseThrow();
    }

    private int draw(int n) {
        seed = (int) ((seed * 1103515245L + 12345L) & 0xFFFFFFFFL);
        return (int) (((seed & 0xFFFFFFFFL) >> 16) % n);
    }

    private String sounded(String notes) {
        StringBuilder left = new StringBuilder();
        for (char note : notes.toCharArray()) {
            left.append(draw(100) < lost ? '9' : note);
        }
        return left.toString();
    }

    // THE TAPE

    private record Token(String text, int place) {
    }

    private List<Token> tokens(String text) {
        List<Token> all = new ArrayList<>();
        java.util.regex.Matcher matcher = java.util.regex.Pattern.compile("[a-z]+|[0-9]+|;|[^ ]",
            java.util.regex.Pattern.DOTALL).matcher(text);
        while (matcher.find()) {
            all.add(new Token(matcher.group(), matcher.start()));
        }
        all.add(new Token("", text.length()));
        return all;
    }

    private int read() {
        List<Token> left = tokens(tape);
        tape = "";
        Kept old = new Kept(calls, ears, men, sure, lost, seed);
        restore(old);
        try {
            int count = 1;
            statement(left);
            while (!left.get(0).text.isEmpty()) {
                take(left, left.get(0).text.equals(";"));
                statement(left);
                count++;
            }
            return count;
        } catch (Refusal refusal) {
            restore(old);
            throw refusal;
        }
    }

    private static String take(List<Token> left, boolean mayStand) {
        want(mayStand, -20 - left.get(0).place);
        return left.remove(0).text;
    }

    private static int number(List<Token> left, int least, int most) {
        String text = left.get(0).text;
        boolean mayStand = text.matches("[0-9]{1,4}")
            && in(Integer.parseInt(text), least, most);
        return Integer.parseInt(take(left, mayStand));
    }

    private void statement(List<Token> left) {
        String word = left.get(0).text;
        take(left, word.matches("call|ear|man|sure|lost|use") && !(word.equals("call") && calls.size() == 12)
            && !(word.equals("ear") && ears.size() == 6) && !(word.equals("man") && men.size() == 8));
        switch (word) {
            case "call" -> {
                String text = take(left, left.get(0).text.matches("[a-e]{1,8}"));
                String notes = text.replace('a', '0').replace('b', '1').replace('c', '2').replace('d', '3')
                    .replace('e', '4');
                int use = number(left, 1, 99);
                calls.add(new Call(notes, use, number(left, 0, 99)));
            }
            case "ear" -> {
                int kind = number(left, 0, 5);
                ears.add(new Ear(kind, number(left, 0, 9)));
            }
            case "man" -> {
                int ear = number(left, 0, ears.size() - 1);
                men.add(new Man(ear, number(left, 0, 1)));
            }
            case "sure" -> sure = number(left, 0, 1000);
            case "lost" -> lost = number(left, 0, 100);
            default -> {
                int call = number(left, 0, calls.size() - 1);
                Call old = calls.get(call);
                calls.set(call, new Call(old.notes, number(left, 1, 99), old.cost));
            }
        }
    }
}
