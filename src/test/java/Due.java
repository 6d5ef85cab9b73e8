import java.lang.reflect.InvocationTargetException;
import java.lang.reflect.Method;
import java.lang.reflect.Modifier;
import java.util.Arrays;
import java.util.Comparator;

/** Counts answers that are not due, for all tests of the project. */
final class Due {
    private static final int SHOWN = 30;
    private int wrong = 0;
    private int asked = 0;

    void same(String call, long got, long want) {
        asked++;
        if (got == want) {
            return;
        }
        wrong++;
        if (wrong <= SHOWN) {
            System.out.println(call + " answered " + got + ", due is " + want);
        }
    }

    void same(String call, String got, String want) {
        same(got.equals(want) ? call : call + ": " + got + "\n    instead of " + want + "\n   ", got.equals(want) ? 0 : 1, 0);
    }

    /** Runs each method of a test that takes nothing, so that none is forgotten in a list. */
    void runAll(Object test) {
        Method[] methods = test.getClass().getDeclaredMethods();
        Arrays.sort(methods, Comparator.comparing(Method::getName));
        for (Method method : methods) {
            if (method.getParameterCount() > 0 || Modifier.isStatic(method.getModifiers())) {
                continue;
            }
            int before = asked;
            try {
                method.invoke(test);
            } catch (InvocationTargetException | IllegalAccessException e) {
                same(method.getName() + " threw " + e.getCause(), 1, 0);
            }
            same("a test asks something: " + method.getName(), asked > before ? 1 : 0, 1);
        }
    }

    int wrongAnswers() {
        return wrong;
    }

    void end(String test) {
        System.out.println(test + ": " + asked + " answers, " + wrong + " of them not as due");
        if (wrong != 0 || asked == 0) {
            System.exit(1);
        }
    }

    /** Puts a text of any length, eight characters a call; returns what the last call answered. */
    static int putText(CoinRows rows, String text) {
        int answer = 0;
        for (int i = 0; i < text.length(); i += 8) {
            answer = rows.put(packed(text.substring(i, Math.min(text.length(), i + 8))));
        }
        return answer;
    }

    static long packed(String text) {
        long number = 0;
        for (int i = 0; i < text.length(); i++) {
            number = number << 8 | text.charAt(i);
        }
        return number;
    }

    static CoinRows loaded(String... texts) {
        CoinRows rows = new CoinRows();
        for (String text : texts) {
            putText(rows, text);
            if (rows.load() < 0) {
                throw new IllegalArgumentException("a text of a test has a fault: " + text);
            }
        }
        return rows;
    }
}
