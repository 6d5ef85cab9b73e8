import java.io.IOException;
import java.lang.reflect.Constructor;
import java.lang.reflect.Field;
import java.lang.reflect.Method;
import java.lang.reflect.Modifier;
import java.nio.file.Files;
import java.nio.file.Path;
import java.util.Set;
import java.util.TreeSet;
import java.util.regex.Matcher;
import java.util.regex.Pattern;

/** The face is the document's and no more, and the source has nothing that ../shared/LANGUAGE.md rules out by a word. */
public final class FaceTest {
    private static final Path SOURCE = Path.of("src/main/java/CoinRows.java");
    private static final Set<String> METHODS = Set.of("int give(int,int,int,int)", "int weight(int,int,int)", "int add(int)", "int cut()",
        "int letter(int)", "int train()", "int put(long)", "int wipe()", "int fault()", "int load()", "long total()", "long forward(int,int)",
        "long backward(int,int)", "int ways()", "int way(int,int)", "long weighs(int)", "int likeliest(int)", "long odds(int,int,int)",
        "int likelyAt(int)", "long expected(int,int,int,int)", "int shareBits()", "long next(int)", "long slip(int)", "int count(int)",
        "int undo()", "int save(int)", "int restore(int)");
    private static final Set<String> CONSTANTS = Set.of("NO_SUCH", "BAD_VALUE", "BAD_TEXT", "TOO_MANY", "NOT_POSSIBLE", "NONE", "BEGIN",
        "STEP", "LETTER");
    private static final String[] RULED_OUT = {"import ", "package ", "->", "::", "catch", "finally", "throw", "synchronized", "assert",
        "Exact\\(", "Float\\.", "Double\\.", "String\\.format", "System\\.(?!arraycopy)", "Thread", "hashCode", "toString", "getClass",
        "Math\\.(?!max\\(|min\\()", "static \\{"};

    private final Due due = new Due();

    public static void main(String[] args) throws IOException {
        FaceTest test = new FaceTest();
        test.constants();
        test.face();
        test.source();
        test.due.end("FaceTest");
    }

    private void constants() {
        due.same("NO_SUCH", CoinRows.NO_SUCH, -1);
        due.same("BAD_VALUE", CoinRows.BAD_VALUE, -2);
        due.same("BAD_TEXT", CoinRows.BAD_TEXT, -3);
        due.same("TOO_MANY", CoinRows.TOO_MANY, -4);
        due.same("NOT_POSSIBLE", CoinRows.NOT_POSSIBLE, -5);
        due.same("NONE", CoinRows.NONE, -6);
        due.same("BEGIN", CoinRows.BEGIN, 0);
        due.same("STEP", CoinRows.STEP, 1);
        due.same("LETTER", CoinRows.LETTER, 2);
    }

    private void yes(String what, boolean holds) {
        due.same(what, holds ? 1 : 0, 1);
    }

    private void face() {
        Class<?> face = CoinRows.class;
        yes("public and final", Modifier.isPublic(face.getModifiers()) && Modifier.isFinal(face.getModifiers()));
        Set<String> names = new TreeSet<>();
        for (Method method : face.getDeclaredMethods()) {
            if (Modifier.isPublic(method.getModifiers())) {
                String whole = method.toGenericString();
                names.add(whole.replace("public ", "").replace("CoinRows.", ""));
            }
        }
        due.same("methods of the face " + names, names.equals(METHODS) ? 1 : 0, 1);
        for (Method method : face.getDeclaredMethods()) {
            boolean own = Modifier.isPrivate(method.getModifiers()) || method.isSynthetic();
            yes("private: " + method, own || Modifier.isPublic(method.getModifiers()));
        }
        for (Field field : face.getDeclaredFields()) {
            boolean constant = Modifier.isPublic(field.getModifiers()) && CONSTANTS.contains(field.getName());
            yes("private: " + field, constant || Modifier.isPrivate(field.getModifiers()));
            yes("final: " + field, !Modifier.isStatic(field.getModifiers()) || Modifier.isFinal(field.getModifiers()));
        }
        Constructor<?>[] makers = face.getDeclaredConstructors();
        yes("one public constructor", makers.length == 1 && Modifier.isPublic(makers[0].getModifiers()));
        for (Class<?> inside : face.getDeclaredClasses()) {
            int is = inside.getModifiers();
            yes("private and static: " + inside, Modifier.isPrivate(is) && Modifier.isStatic(is));
            for (Method method : inside.getDeclaredMethods()) {
                yes("another name than the face's: " + method, METHODS.stream().noneMatch(one -> one.contains(" " + method.getName() + "(")));
            }
        }
    }

    private void source() throws IOException {
        String text = Files.readString(SOURCE);
        yes("signs 1 to 127", text.chars().allMatch(sign -> sign > 0 && sign < 128));
        String code = text.replaceAll("(?s)/\\*.*?\\*/", "").replaceAll("//[^\n]*", "");
        for (String word : RULED_OUT) {
            Matcher matcher = Pattern.compile(word).matcher(code);
            yes("without " + word, !matcher.find());
        }
        methodsAreShort(text.split("\n"));
    }

    private void methodsAreShort(String[] lines) {
        int methods = 0;
        for (int first = 0; first < lines.length; first++) {
            Matcher head = Pattern.compile("( {4}| {8})\\w[^;=]*\\) \\{").matcher(lines[first]);
            if (!head.matches()) {
                continue;
            }
            methods++;
            int last = first;
            while (last < lines.length - 1 && !lines[last].equals(head.group(1) + "}")) {
                last++;
            }
            due.same("lines beyond 60 of " + lines[first], Math.max(0, last - first - 59), 0);
        }
        yes("methods are found", methods > METHODS.size());
    }
}
