import java.lang.reflect.Field;
import java.lang.reflect.Member;
import java.lang.reflect.Method;
import java.lang.reflect.Modifier;
import java.nio.file.Files;
import java.nio.file.Path;
import java.util.ArrayList;
import java.util.Arrays;
import java.util.List;
import java.util.TreeSet;
import java.util.regex.Matcher;
import java.util.regex.Pattern;

/** The document's face, and those rules of LANGUAGE.md that the class or its text can be asked for. */
public final class FaceTest {
    private static final Due DUE = new Due();

    private static final String FACE = """
        int row(int, int, int)
        int set(int, int, long)
        int copy(int, int, int, int, int)
        long element(int, int)
        int holds(int)
        int show(int, int)
        int says(int, int)
        int call(int, int, int, int)
        int ear(int, int)
        int man(int, int)
        int tell(int, int, int)
        int ask(int, int)
        int feed(int)
        int wipe()
        int camp()
        int callOf(int, int)
        int earOf(int, int)
        int manOf(int, int)
        int heard(int, int, int)
        int fits(int, int, boolean, int, int)
        int likely(int, int, boolean, int, int)
        int guess(int, int, boolean, int)
        int apart(int, int)
        int known(int, int)
        int earFor(int)
        int mean(int)
        int worst(int)
        int next(int, int, int)
        int alikeFirst(int, int)
        int notes(int)
        int twins()
        int change(int, int)
        int alike(int)
        int mixed(int, int)
        int fresh(int, int)
        int keep(int)
        int does(int, int)
        int right(int)
        int leads(int)
        int follows(int)
        int sureFor(int)
        int risk(int, int)
        int learn(int)
        int nearest(int, int, int)
        int judge(int, int)
        int when(int, int, int)
        int sound(int, int)
        int days(int)
        int drop()
        int seed(int)
        int image()
        int back()
        int status(int)
        """;

    public static void main(String[] args) throws Exception {
        faceIsTheDocuments();
        restIsPrivate();
        insideClasses();
        String text = Files.readString(Path.of(System.getProperty("source")));
        String code = withoutCommentsAndTexts(text);
        libraryIsAllowed(text);
        wordsAreAllowed(code);
        methodsAreShort(text);
        DUE.end();
    }

    private static void faceIsTheDocuments() throws Exception {
        TreeSet<String> found = new TreeSet<>();
        for (Method method : SoupOrHorses.class.getDeclaredMethods()) {
            if (Modifier.isPublic(method.getModifiers())) {
                found.add(signature(method));
                DUE.holds(method + " is not static", !Modifier.isStatic(method.getModifiers()));
            }
        }
        DUE.same("methods of the face", FACE.lines().count(), 53);
        DUE.holds("the face: " + found, found.equals(new TreeSet<>(FACE.lines().toList())));
        DUE.holds("a public final class", (SoupOrHorses.class.getModifiers()
            & (Modifier.PUBLIC | Modifier.FINAL)) == (Modifier.PUBLIC | Modifier.FINAL));
        DUE.same("constructors", SoupOrHorses.class.getDeclaredConstructors().length, 1);
        DUE.same("the public one", SoupOrHorses.class.getConstructors().length, 1);
        DUE.same("NONE", SoupOrHorses.NONE, -1);
        Field none = SoupOrHorses.class.getField("NONE");
        DUE.holds("NONE is an int", none.getType() == int.class && Modifier.isFinal(none.getModifiers()));
    }

    private static String signature(Method method) {
        List<String> types = new ArrayList<>();
        for (Class<?> type : method.getParameterTypes()) {
            types.add(type.getName());
        }
        return method.getReturnType().getName() + " " + method.getName() + "(" + String.join(", ", types) + ")";
    }

    private static void restIsPrivate() {
        List<Member> members = new ArrayList<>(Arrays.asList(SoupOrHorses.class.getDeclaredFields()));
        members.addAll(Arrays.asList(SoupOrHorses.class.getDeclaredMethods()));
        for (Member member : members) {
            int modifiers = member.getModifiers();
            boolean isOfFace = FACE.contains(" " + member.getName() + "(") || member.getName().equals("NONE");
            DUE.holds(member + " is private, or of the face",
                Modifier.isPrivate(modifiers) != (isOfFace && Modifier.isPublic(modifiers)));
        }
    }

    private static void insideClasses() {
        List<Class<?>> all = new ArrayList<>(Arrays.asList(SoupOrHorses.class.getDeclaredClasses()));
        for (Class<?> inside : all) {
            int modifiers = inside.getModifiers();
            DUE.holds(inside + " is static", Modifier.isStatic(modifiers));
            DUE.holds(inside + " is not public",
                !Modifier.isPublic(modifiers) && !Modifier.isProtected(modifiers));
            for (Method method : inside.getDeclaredMethods()) {
                DUE.holds(method + " has a name of its own", !FACE.contains(" " + method.getName() + "("));
            }
        }
        all.add(SoupOrHorses.class);
        DUE.holds("some twelve classes", all.size() <= 12);
        for (Class<?> one : all) {
            int fields = 0;
            for (Field field : one.getDeclaredFields()) {
                boolean isStatic = Modifier.isStatic(field.getModifiers());
                DUE.holds(field + " is final, if static",
                    !isStatic || Modifier.isFinal(field.getModifiers()));
                fields += isStatic ? 0 : 1;
            }
            DUE.holds(one + " has some twenty fields", fields <= 20);
            for (Method method : one.getDeclaredMethods()) {
                DUE.holds(method + " has seven parameters at most", method.getParameterCount() <= 7);
                DUE.holds(method + " is no lambda", !method.isSynthetic());
            }
        }
    }

    private static String withoutCommentsAndTexts(String text) {
        return text.replaceAll("(?s)/\\*.*?\\*/", " ").replaceAll("//[^\n]*", " ")
            .replaceAll("\"[^\"\n]*\"", "TEXT").replaceAll("'[^'\n]+'", "SIGN");
    }

    private static void libraryIsAllowed(String text) {
        Matcher matcher = Pattern.compile("(?m)^\\s*(import|package)\\s.*$").matcher(text);
        while (matcher.find()) {
            DUE.holds(matcher.group(), matcher.group().equals("import java.util.Arrays;"));
        }
        DUE.holds("all characters are 1 to 127", text.chars().allMatch(c -> c >= 1 && c <= 127));
    }

    private static void wordsAreAllowed(String code) {
        String[] words = {"throw", "throws", "try", "catch", "finally", "synchronized", "assert", "float",
            "double", "var", "instanceof", "extends", "implements", "protected", "volatile", "transient",
            "native", "Object", "hashCode", "toString", "\\w*Exception", "\\w*Error", "Throwable", "\\w+Exact"};
        for (String word : words) {
            DUE.holds("no " + word, !Pattern.compile("\\b" + word + "\\b").matcher(code).find());
        }
        DUE.holds("no lambda, no method reference", !code.contains("->") && !code.contains("::"));
        DUE.holds("texts are not joined by +", !code.contains("TEXT +") && !code.contains("+ TEXT"));
        Matcher matcher = Pattern.compile("\\b(System|Arrays|Math|Integer|Long)\\.(\\w+)").matcher(code);
        List<String> allowed = List.of("System.arraycopy", "Arrays.fill", "Math.max", "Math.min", "Math.abs",
            "Integer.bitCount");
        while (matcher.find()) {
            DUE.holds(matcher.group(), allowed.contains(matcher.group()));
        }
    }

    /** Methods of the class stand behind 4 or 8 blanks, and end with a brace there. */
    private static void methodsAreShort(String text) {
        String[] lines = text.split("\n");
        for (int start = 0; start < lines.length; start++) {
            Matcher head = Pattern.compile("^( {4}| {8})[a-z].*\\) \\{$").matcher(lines[start]);
            if (!head.find()) {
                continue;
            }
            int end = start;
            while (end < lines.length && !lines[end].equals(head.group(1) + "}")) {
                end++;
            }
            DUE.holds("some sixty lines: " + lines[start].trim(), end - start <= 60);
        }
    }
}
