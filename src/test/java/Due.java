/** Counts answers that are not due, for all tests of the project. */
final class Due {
    private static final int SHOWN = 30;
    private int wrong = 0;
    private int asked = 0;

    void same(String call, long got, long want) {
        asked++;
        if (got == want) {
            return;
        }
        wrong++;
        if (wrong <= SHOWN) {
            System.out.println(call + " answered " + got + ", due is " + want);
        }
    }

    int wrongAnswers() {
        return wrong;
    }

    void end(String test) {
        System.out.println(test + ": " + asked + " answers, " + wrong + " of them not as due");
        if (wrong != 0 || asked == 0) {
            System.exit(1);
        }
    }

    /** Puts a text of any length, eight characters a call; returns what the last call answered. */
    static int putText(CoinRows rows, String text) {
        int answer = 0;
        for (int i = 0; i < text.length(); i += 8) {
            answer = rows.put(packed(text.substring(i, Math.min(text.length(), i + 8))));
        }
        return answer;
    }

    static long packed(String text) {
        long number = 0;
        for (int i = 0; i < text.length(); i++) {
            number = number << 8 | text.charAt(i);
        }
        return number;
    }

    static CoinRows loaded(String... texts) {
        CoinRows rows = new CoinRows();
        for (String text : texts) {
            putText(rows, text);
            if (rows.load() < 0) {
                throw new IllegalArgumentException("a text of a test has a fault: " + text);
            }
        }
        return rows;
    }
}
