import java.io.IOException;
import java.lang.reflect.Field;
import java.lang.reflect.Method;
import java.lang.reflect.Modifier;
import java.nio.file.Files;
import java.nio.file.Path;
import java.util.Set;
import java.util.TreeSet;
import java.util.regex.Matcher;
import java.util.regex.Pattern;

/** The calls that README.md shows answer what stands behind them, and its table names every call of the face. */
public final class ReadmeTest {
    private static final Path PAGE = Path.of("README.md");
    private static final Pattern EXAMPLE = Pattern.compile("(?s)```java\n(.*?)```");
    private static final String MAKING = "CoinRows rows = new CoinRows();";
    private static final Pattern CALL = Pattern.compile("rows\\.(\\w+)\\((.*)\\); +// (-?\\d+|[A-Z_]{4,})\\b.*");

    private final Due due = new Due();

    public static void main(String[] args) throws IOException, ReflectiveOperationException {
        ReadmeTest test = new ReadmeTest();
        String page = Files.readString(PAGE);
        test.examples(page);
        test.table(page);
        test.due.end("ReadmeTest");
    }

    private void examples(String page) throws ReflectiveOperationException {
        Matcher example = EXAMPLE.matcher(page);
        int examples = 0;
        while (example.find()) {
            examples++;
            String[] lines = example.group(1).split("\n");
            due.same("an example begins with a new object: " + lines[0], lines[0].equals(MAKING) ? 1 : 0, 1);
            CoinRows rows = new CoinRows();
            for (int i = 1; i < lines.length; i++) {
                call(rows, lines[i]);
            }
        }
        due.same("there are examples", examples > 0 ? 1 : 0, 1);
    }

    private void call(CoinRows rows, String line) throws ReflectiveOperationException {
        Matcher call = CALL.matcher(line);
        if (!call.matches()) {
            due.same("a call with its answer: " + line, 0, 1);
            return;
        }
        String[] texts = call.group(2).isEmpty() ? new String[0] : call.group(2).split(", ");
        due.same(line, answer(rows, call.group(1), texts), number(call.group(3)));
    }

    private static long answer(CoinRows rows, String name, String[] texts) throws ReflectiveOperationException {
        Method method = methodOf(name);
        Object[] values = new Object[texts.length];
        for (int i = 0; i < texts.length; i++) {
            long value = number(texts[i]);
            if (method.getParameterTypes()[i] == long.class) {
                values[i] = value;
            } else {
                values[i] = (int) value;
            }
        }
        return ((Number) method.invoke(rows, values)).longValue();
    }

    private static Method methodOf(String name) throws NoSuchMethodException {
        for (Method method : CoinRows.class.getDeclaredMethods()) {
            if (method.getName().equals(name)) {
                return method;
            }
        }
        throw new NoSuchMethodException(name);
    }

    private static long number(String text) throws ReflectiveOperationException {
        if (Character.isLetter(text.charAt(0))) {
            Field constant = CoinRows.class.getField(text.replace("CoinRows.", ""));
            return constant.getInt(null);
        }
        return Long.decode(text.replace("L", ""));
    }

    private void table(String page) {
        Set<String> told = new TreeSet<>();
        for (String line : page.split("\n")) {
            if (line.startsWith("| ")) {
                Matcher name = Pattern.compile("`(\\w+)`").matcher(line);
                while (name.find()) {
                    due.same("told once: " + name.group(1), told.add(name.group(1)) ? 1 : 0, 1);
                }
            }
        }
        Set<String> face = new TreeSet<>();
        for (Method method : CoinRows.class.getDeclaredMethods()) {
            if (Modifier.isPublic(method.getModifiers())) {
                face.add(method.getName());
            }
        }
        due.same("calls of the table", told.toString(), face.toString());
    }
}
