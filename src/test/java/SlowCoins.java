import java.math.BigInteger;
import java.util.ArrayList;
import java.util.List;
import java.util.function.ToIntFunction;
import java.util.regex.Matcher;
import java.util.regex.Pattern;

/** The document again, by writing out every way: slow, and made without the class's sums. */
final class SlowCoins {
    static final int NO_SUCH = -1, BAD_VALUE = -2, BAD_TEXT = -3, TOO_MANY = -4, NOT_POSSIBLE = -5, NONE = -6;
    /** With more ways than these a call that needs them all is not asked. */
    static final int MOST_WAYS = 3000;
    private static final String PART =
        "(?:@[0-5][0-3]|[0-3]>[0-5][0-3]|4>[0-35][0-3]|4>40|5>[0-3][0-3]|5>[45]0|[0-3]=[a-d][0-3]|![a-d]{0,6})";
    private static final Pattern TEXT = Pattern.compile(PART + "(?:;" + PART + ")*");

    record State(int[] begin, int[][] step, int[][] tell, String row) {
        State copy() {
            return new State(begin.clone(), copyOf(step), copyOf(tell), row);
        }

        State with(String other) {
            return new State(begin, step, tell, other);
        }
    }

    record Way(List<Integer> coins, long weight) {
    }

    private State now = new State(new int[6], new int[6][6], new int[4][4], "");
    private final List<State> history = new ArrayList<>();
    private final State[] slots = new State[2];
    private String pad = "";
    private List<Way> listed = null;

    SlowCoins() {
        now.begin[0] = 1;
        now.step[0][0] = 1;
        for (int letter = 0; letter < 4; letter++) {
            now.tell[0][letter] = 1;
        }
    }

    private static int[][] copyOf(int[][] rows) {
        int[][] copy = rows.clone();
        for (int i = 0; i < copy.length; i++) {
            copy[i] = rows[i].clone();
        }
        return copy;
    }

    private static boolean in(int number, int low, int high) {
        return low <= number && number <= high;
    }

    private static boolean there(int kind, int coin, int to) {
        return switch (kind) {
            case 0 -> in(coin, 0, 5) && to == 0;
            case 1 -> in(coin, 0, 5) && in(to, 0, 5);
            default -> in(coin, 0, 3) && in(to, 0, 3);
        };
    }

    private void change(State then) {
        history.add(now);
        if (history.size() > 6) {
            history.remove(0);
        }
        now = then;
        listed = null;
    }

    private static void set(State state, int kind, int coin, int to, int weight) {
        if (kind == 0) {
            state.begin[coin] = weight;
        } else {
            (kind == 1 ? state.step : state.tell)[coin][to] = weight;
        }
    }

    private static int get(State state, int kind, int coin, int to) {
        return kind == 0 ? state.begin[coin] : (kind == 1 ? state.step : state.tell)[coin][to];
    }

    int give(int kind, int coin, int to, int weight) {
        if (!in(kind, 0, 2) || !in(weight, 0, 3)) {
            return BAD_VALUE;
        }
        if (!there(kind, coin, to)) {
            return NO_SUCH;
        }
        boolean barred = kind == 1 && (coin == 4 && to == 4 || coin == 5 && (to == 4 || to == 5));
        if (barred && weight > 0) {
            return NOT_POSSIBLE;
        }
        State then = now.copy();
        int former = get(now, kind, coin, to);
        set(then, kind, coin, to, weight);
        change(then);
        return former;
    }

    int weight(int kind, int coin, int to) {
        if (!in(kind, 0, 2)) {
            return BAD_VALUE;
        }
        return there(kind, coin, to) ? get(now, kind, coin, to) : NO_SUCH;
    }

    int add(int letter) {
        if (!in(letter, 0, 3)) {
            return BAD_VALUE;
        }
        if (now.row.length() == 6) {
            return TOO_MANY;
        }
        change(now.with(now.row + (char) ('a' + letter)));
        return now.row.length();
    }

    int cut() {
        if (now.row.isEmpty()) {
            return NOT_POSSIBLE;
        }
        int last = now.row.length() - 1;
        int letter = now.row.charAt(last) - 'a';
        change(now.with(now.row.substring(0, last)));
        return letter;
    }

    int letter(int place) {
        return hasPlace(place) ? now.row.charAt(place) - 'a' : NO_SUCH;
    }

    private boolean hasPlace(int place) {
        return in(place, 0, now.row.length() - 1);
    }

    int train() {
        if (now.row.isEmpty() || total() == 0) {
            return NOT_POSSIBLE;
        }
        State then = now.copy();
        int different = trainGroup(then, 0, -1, 6);
        for (int coin = 0; coin < 6; coin++) {
            different += trainGroup(then, 1, coin, 6);
        }
        for (int coin = 0; coin < 4; coin++) {
            different += trainGroup(then, 2, coin, 4);
        }
        change(then);
        return different;
    }

    private int trainGroup(State then, int kind, int coin, int size) {
        BigInteger greatest = BigInteger.ZERO;
        for (int i = 0; i < size; i++) {
            greatest = greatest.max(together(kind, kind == 0 ? i : coin, kind == 0 ? 0 : i));
        }
        int different = 0;
        for (int i = 0; i < size && greatest.signum() > 0; i++) {
            int from = kind == 0 ? i : coin;
            int to = kind == 0 ? 0 : i;
            BigInteger[] parts = together(kind, from, to).multiply(BigInteger.valueOf(3)).divideAndRemainder(greatest);
            boolean up = parts[1].shiftLeft(1).compareTo(greatest) >= 0;
            int weight = parts[0].intValueExact() + (up ? 1 : 0);
            if (weight != get(now, kind, from, to)) {
                different++;
            }
            set(then, kind, from, to, weight);
        }
        return different;
    }

    int put(long characters) {
        StringBuilder signs = new StringBuilder();
        boolean ended = false;
        for (int shift = 0; shift < 64; shift += 8) {
            int code = (int) (characters >>> shift & 0xff);
            if (code == 0) {
                ended = true;
            } else if (ended || code < 33 || code > 126) {
                return BAD_VALUE;
            } else {
                signs.insert(0, (char) code);
            }
        }
        if (signs.length() == 0) {
            return BAD_VALUE;
        }
        if (pad.length() + signs.length() > 80) {
            return TOO_MANY;
        }
        pad += signs;
        return pad.length();
    }

    int wipe() {
        int length = pad.length();
        pad = "";
        return length;
    }

    int fault() {
        for (int end = 1; end <= pad.length(); end++) {
            Matcher matcher = TEXT.matcher(pad.substring(0, end));
            if (!matcher.matches() && !matcher.hitEnd()) {
                return end - 1;
            }
        }
        return TEXT.matcher(pad).matches() ? NONE : pad.length();
    }

    int load() {
        if (!TEXT.matcher(pad).matches()) {
            return BAD_TEXT;
        }
        State then = now.copy();
        String[] parts = pad.split(";");
        for (String part : parts) {
            if (part.charAt(0) == '!') {
                then = then.with(part.substring(1));
            } else if (part.charAt(0) == '@') {
                set(then, 0, part.charAt(1) - '0', 0, part.charAt(2) - '0');
            } else {
                boolean step = part.charAt(1) == '>';
                set(then, step ? 1 : 2, part.charAt(0) - '0', part.charAt(2) - (step ? '0' : 'a'), part.charAt(3) - '0');
            }
        }
        change(then);
        pad = "";
        return parts.length;
    }

    /** Whether all ways can be written out; to be asked ahead of every call that is told by ways. */
    boolean fewWays() {
        return listOf(now).size() <= MOST_WAYS;
    }

    private List<Way> list() {
        if (listed == null) {
            listed = listOf(now);
        }
        return listed;
    }

    private static List<Way> listOf(State state) {
        return new Lister(state).all();
    }

    /** Writes out all ways of a state; gives one way too many if there are too many, or too many beginnings. */
    private static final class Lister {
        private static final int MOST_BEGINNINGS = 20 * MOST_WAYS;
        private final State state;
        private final List<Way> ways = new ArrayList<>();
        private int beginnings = 0;

        Lister(State state) {
            this.state = state;
        }

        List<Way> all() {
            if (state.row.isEmpty()) {
                ways.add(new Way(List.of(), 1));
            } else {
                for (int coin = 0; coin < 6; coin++) {
                    extend(List.of(), coin, state.begin[coin], 0);
                }
            }
            while (beginnings > MOST_BEGINNINGS && ways.size() <= MOST_WAYS) {
                ways.add(new Way(List.of(), 0));
            }
            return ways;
        }

        private void extend(List<Integer> coins, int coin, long weight, int told) {
            int then = coin < 4 ? told + 1 : told;
            long product = coin < 4 ? weight * state.tell[coin][state.row.charAt(told) - 'a'] : weight;
            if (product == 0 || ways.size() > MOST_WAYS || ++beginnings > MOST_BEGINNINGS) {
                return;
            }
            List<Integer> longer = new ArrayList<>(coins);
            longer.add(coin);
            if (then == state.row.length()) {
                ways.add(new Way(longer, product));
                return;
            }
            for (int to = 0; to < 6; to++) {
                extend(longer, to, product * state.step[coin][to], then);
            }
        }
    }

    private static BigInteger sum(List<Way> ways, ToIntFunction<Way> times) {
        BigInteger sum = BigInteger.ZERO;
        for (Way way : ways) {
            sum = sum.add(BigInteger.valueOf(way.weight).multiply(BigInteger.valueOf(times.applyAsInt(way))));
        }
        return sum;
    }

    private static long totalOf(State state) {
        return sum(listOf(state), way -> 1).longValueExact();
    }

    long total() {
        return sum(list(), way -> 1).longValueExact();
    }

    /** All beginnings that tell the letters up to a place, whether they can be gone on with or not. */
    long forward(int place, int coin) {
        if (!hasPlace(place) || !in(coin, 0, 3)) {
            return NO_SUCH;
        }
        List<Way> beginnings = listOf(now.with(now.row.substring(0, place + 1)));
        return sum(beginnings, way -> way.coins.get(way.coins.size() - 1) == coin ? 1 : 0).longValueExact();
    }

    /** The rests are the ways of the letters behind, if the steps from the coin are the weights to begin. */
    long backward(int place, int coin) {
        if (!hasPlace(place) || !in(coin, 0, 3)) {
            return NO_SUCH;
        }
        return totalOf(new State(now.step[coin], now.step, now.tell, now.row.substring(place + 1)));
    }

    int ways() {
        return list().size();
    }

    int way(int way, int what) {
        if (!in(way, 0, ways() - 1)) {
            return NO_SUCH;
        }
        return what < -1 ? BAD_VALUE : about(list().get(way), what);
    }

    private static int about(Way way, int what) {
        if (what == -1) {
            return way.coins.size();
        }
        return what < way.coins.size() ? way.coins.get(what) : NONE;
    }

    long weighs(int way) {
        return in(way, 0, ways() - 1) ? list().get(way).weight : NO_SUCH;
    }

    private int best() {
        int best = 0;
        for (int i = 1; i < ways(); i++) {
            if (list().get(i).weight > list().get(best).weight) {
                best = i;
            }
        }
        return best;
    }

    int likeliest(int what) {
        if (what < -2) {
            return BAD_VALUE;
        }
        if (ways() == 0) {
            return NOT_POSSIBLE;
        }
        return what == -2 ? best() : about(list().get(best()), what);
    }

    private static int coinAt(Way way, int place) {
        int left = place;
        for (int coin : way.coins) {
            if (coin < 4 && left-- == 0) {
                return coin;
            }
        }
        throw new IllegalStateException();
    }

    private long fraction(BigInteger upper, int part) {
        BigInteger lower = BigInteger.valueOf(total());
        BigInteger common = upper.gcd(lower);
        return (part == 0 ? upper : lower).divide(common).longValueExact();
    }

    long odds(int place, int coin, int part) {
        if (!hasPlace(place) || !in(coin, 0, 3)) {
            return NO_SUCH;
        }
        if (!in(part, 0, 1)) {
            return BAD_VALUE;
        }
        if (total() == 0) {
            return NOT_POSSIBLE;
        }
        return fraction(sum(list(), way -> coinAt(way, place) == coin ? 1 : 0), part);
    }

    int likelyAt(int place) {
        if (!hasPlace(place)) {
            return NO_SUCH;
        }
        if (total() == 0) {
            return NOT_POSSIBLE;
        }
        int likely = 0;
        BigInteger most = BigInteger.ZERO;
        for (int coin = 3; coin >= 0; coin--) {
            int each = coin;
            BigInteger weight = sum(list(), way -> coinAt(way, place) == each ? 1 : 0);
            if (weight.compareTo(most) >= 0) {
                most = weight;
                likely = coin;
            }
        }
        return likely;
    }

    /** What the ways weigh, each as often as it begins so, makes the step or tells the letter by the coin. */
    private BigInteger together(int kind, int coin, int to) {
        return sum(list(), way -> times(way, kind, coin, to));
    }

    private int times(Way way, int kind, int coin, int to) {
        int times = 0;
        int told = 0;
        for (int i = 0; i < way.coins.size(); i++) {
            int each = way.coins.get(i);
            boolean met = switch (kind) {
                case 0 -> i == 0 && each == coin;
                case 1 -> i > 0 && way.coins.get(i - 1) == coin && each == to;
                default -> each == coin && now.row.charAt(told) - 'a' == to;
            };
            times += met ? 1 : 0;
            told += each < 4 ? 1 : 0;
        }
        return times;
    }

    long expected(int kind, int coin, int to, int part) {
        if (!in(kind, 0, 2) || !in(part, 0, 1)) {
            return BAD_VALUE;
        }
        if (!there(kind, coin, to)) {
            return NO_SUCH;
        }
        return total() == 0 ? NOT_POSSIBLE : fraction(together(kind, coin, to), part);
    }

    int shareBits() {
        if (total() == 0) {
            return NOT_POSSIBLE;
        }
        return Float.floatToIntBits((float) ((double) list().get(best()).weight / (double) total()));
    }

    long next(int what) {
        if (!in(what, 0, 1)) {
            return BAD_VALUE;
        }
        if (now.row.length() == 6) {
            return NOT_POSSIBLE;
        }
        long most = 0;
        int best = 0;
        for (int letter = 3; letter >= 0; letter--) {
            long then = totalOf(now.with(now.row + (char) ('a' + letter)));
            if (then >= most) {
                most = then;
                best = letter;
            }
        }
        return most == 0 ? NONE : what == 0 ? best : most;
    }

    long slip(int what) {
        if (!in(what, 0, 2)) {
            return BAD_VALUE;
        }
        long[] best = {-1, -1, total()};
        for (int place = 0; place < now.row.length(); place++) {
            for (int letter = 0; letter < 4; letter++) {
                String row = now.row.substring(0, place) + (char) ('a' + letter) + now.row.substring(place + 1);
                long then = totalOf(now.with(row));
                if (then > best[2]) {
                    best = new long[] {place, letter, then};
                }
            }
        }
        return best[0] < 0 ? NONE : best[what];
    }

    /** Whether next() and slip(), which ask other rows, can be told by ways as well. */
    boolean fewWaysOfOtherRows() {
        State open = now.copy();
        for (int[] letters : open.tell) {
            int any = letters[0] | letters[1] | letters[2] | letters[3];
            java.util.Arrays.fill(letters, any);
        }
        String longer = now.row.length() < 6 ? now.row + 'a' : now.row;
        return listOf(open.with(longer)).size() <= MOST_WAYS && listOf(open).size() <= MOST_WAYS;
    }

    /** Whether every beginning and every rest can be told by ways, also those that cannot be gone on with. */
    boolean fewPiecesOfWays() {
        for (int place = 0; place < now.row.length(); place++) {
            if (listOf(now.with(now.row.substring(0, place + 1))).size() > MOST_WAYS) {
                return false;
            }
            for (int coin = 0; coin < 4; coin++) {
                State rest = new State(now.step[coin], now.step, now.tell, now.row.substring(place + 1));
                if (listOf(rest).size() > MOST_WAYS) {
                    return false;
                }
            }
        }
        return true;
    }

    int count(int what) {
        return switch (what) {
            case 0 -> now.row.length();
            case 1 -> notZero(now.begin) + notZero(now.step) + notZero(now.tell);
            case 2 -> pad.length();
            case 3 -> history.size();
            default -> BAD_VALUE;
        };
    }

    private static int notZero(int[]... rows) {
        int number = 0;
        for (int[] row : rows) {
            for (int weight : row) {
                number += weight != 0 ? 1 : 0;
            }
        }
        return number;
    }

    int undo() {
        if (history.isEmpty()) {
            return NOT_POSSIBLE;
        }
        now = history.remove(history.size() - 1);
        listed = null;
        return history.size();
    }

    int save(int slot) {
        if (!in(slot, 0, 1)) {
            return BAD_VALUE;
        }
        slots[slot] = now.copy();
        return now.row.length();
    }

    int restore(int slot) {
        if (!in(slot, 0, 1)) {
            return BAD_VALUE;
        }
        if (slots[slot] == null) {
            return NOT_POSSIBLE;
        }
        change(slots[slot].copy());
        return now.row.length();
    }
}
