/** Rows with up to a million ways, each of which is gone once and in order, without keeping them. */
public final class DenseRowTest {
    private static final int LETTERS = 5;

    private final Due due = new Due();
    private final CoinRows rows = new CoinRows();
    private final int[] begin = new int[6];
    private final int[][] step = new int[6][6];
    private final int[][] tell = new int[4][4];
    private final int[] row = new int[LETTERS];
    private long seed;

    private final int[] path = new int[3 * LETTERS];
    private int ways = 0;
    private long total = 0;
    private long greatest = 0;
    private int likeliest = -1;
    private int asked = 0;
    private final long[] begun = new long[6];
    private final long[][] stepped = new long[6][6];
    private final long[][] told = new long[LETTERS][4];

    private DenseRowTest(long seed) {
        this.seed = seed;
    }

    public static void main(String[] args) {
        for (int run = 0; run < 4; run++) {
            DenseRowTest test = new DenseRowTest(run + 5);
            test.fill(run);
            test.goOn(0, -1, 1, 0);
            test.sums();
            test.trained();
            test.due.end("DenseRowTest " + run + " with " + test.ways + " ways");
        }
    }

    private int below(int bound) {
        seed = seed * 6364136223846793005L + 1442695040888963407L;
        return (int) ((seed >>> 33) % bound);
    }

    /** Run 0 has no weight that is 0; the later ones have more of them. */
    private int some(int run) {
        return run > 0 && below(10) < run ? 0 : 1 + below(3);
    }

    private void fill(int run) {
        for (int coin = 0; coin < 6; coin++) {
            begin[coin] = some(run);
            rows.give(CoinRows.BEGIN, coin, 0, begin[coin]);
            for (int to = 0; to < 6; to++) {
                step[coin][to] = coin > 3 && to > 3 && coin + to != 9 || coin == 5 && to == 4 ? 0 : some(run);
                due.same("give", rows.give(CoinRows.STEP, coin, to, step[coin][to]), coin + to == 0 ? 1 : 0);
                if (coin < 4 && to < 4) {
                    tell[coin][to] = some(run);
                    rows.give(CoinRows.LETTER, coin, to, tell[coin][to]);
                }
            }
        }
        for (int place = 0; place < LETTERS; place++) {
            row[place] = below(4);
            rows.add(row[place]);
        }
    }

    private void goOn(int size, int from, long weight, int letters) {
        if (letters == LETTERS) {
            take(size, weight);
            return;
        }
        for (int to = 0; to < 6; to++) {
            long then = weight * (from < 0 ? begin[to] : step[from][to]) * (to < 4 ? tell[to][row[letters]] : 1);
            if (then > 0) {
                path[size] = to;
                goOn(size + 1, to, then, to < 4 ? letters + 1 : letters);
            }
        }
    }

    private void take(int size, long weight) {
        if (below(20000) == 0 && asked < 100 || ways == 0) {
            asked++;
            ask(size, weight);
        }
        if (weight > greatest) {
            greatest = weight;
            likeliest = ways;
        }
        begun[path[0]] += weight;
        int letters = 0;
        for (int i = 0; i < size; i++) {
            if (i > 0) {
                stepped[path[i - 1]][path[i]] += weight;
            }
            if (path[i] < 4) {
                told[letters][path[i]] += weight;
                letters++;
            }
        }
        total += weight;
        ways++;
    }

    private void ask(int size, long weight) {
        due.same("weighs(" + ways + ")", rows.weighs(ways), weight);
        due.same("way(" + ways + ", -1)", rows.way(ways, -1), size);
        int place = below(size);
        due.same("way(" + ways + ", " + place + ")", rows.way(ways, place), path[place]);
        due.same("way(" + ways + ", " + size + ")", rows.way(ways, size), CoinRows.NONE);
    }

    private void fraction(String call, long upper, long lower, long together) {
        long common = java.math.BigInteger.valueOf(together).gcd(java.math.BigInteger.valueOf(total)).longValueExact();
        due.same(call + " upper", upper, together / common);
        due.same(call + " lower", lower, total / common);
    }

    private void sums() {
        due.same("ways()", rows.ways(), ways);
        due.same("way behind the last", rows.way(ways, 0), CoinRows.NO_SUCH);
        due.same("total()", rows.total(), total);
        due.same("likeliest(-2)", rows.likeliest(-2), likeliest);
        due.same("shareBits()", rows.shareBits(), Float.floatToIntBits((float) ((double) greatest / (double) total)));
        for (int place = 0; place < LETTERS; place++) {
            int likely = 0;
            for (int coin = 0; coin < 4; coin++) {
                String call = "odds(" + place + ", " + coin + ")";
                fraction(call, rows.odds(place, coin, 0), rows.odds(place, coin, 1), told[place][coin]);
                due.same(call + " by both sides", rows.forward(place, coin) * rows.backward(place, coin), told[place][coin]);
                likely = told[place][coin] > told[place][likely] ? coin : likely;
            }
            due.same("likelyAt(" + place + ")", rows.likelyAt(place), likely);
        }
        for (int coin = 0; coin < 6; coin++) {
            fraction("begin " + coin, rows.expected(0, coin, 0, 0), rows.expected(0, coin, 0, 1), begun[coin]);
            for (int to = 0; to < 6; to++) {
                String call = "step " + coin + " " + to;
                fraction(call, rows.expected(1, coin, to, 0), rows.expected(1, coin, to, 1), stepped[coin][to]);
            }
        }
        for (int coin = 0; coin < 4; coin++) {
            for (int letter = 0; letter < 4; letter++) {
                String call = "letter " + coin + " " + letter;
                fraction(call, rows.expected(2, coin, letter, 0), rows.expected(2, coin, letter, 1), byLetter(coin)[letter]);
            }
        }
    }

    private long[] byLetter(int coin) {
        long[] sums = new long[4];
        for (int place = 0; place < LETTERS; place++) {
            sums[row[place]] += told[place][coin];
        }
        return sums;
    }

    private void trained() {
        int different = group(begin, begun);
        for (int coin = 0; coin < 6; coin++) {
            different += group(step[coin], stepped[coin]);
        }
        for (int coin = 0; coin < 4; coin++) {
            different += group(tell[coin], byLetter(coin));
        }
        due.same("train()", rows.train(), different);
        for (int coin = 0; coin < 6; coin++) {
            due.same("trained begin " + coin, rows.weight(0, coin, 0), begin[coin]);
            for (int to = 0; to < 6; to++) {
                due.same("trained step " + coin + " " + to, rows.weight(1, coin, to), step[coin][to]);
                if (coin < 4 && to < 4) {
                    due.same("trained letter " + coin + " " + to, rows.weight(2, coin, to), tell[coin][to]);
                }
            }
        }
    }

    /** Puts the trained weights in place of the old ones; says how many are others. */
    private static int group(int[] weights, long[] sums) {
        long most = 0;
        for (long sum : sums) {
            most = Math.max(most, sum);
        }
        int different = 0;
        for (int i = 0; i < weights.length && most > 0; i++) {
            int trained = 0;
            // a weight is reached when 3 times the sum comes to half below it: 6 * sum >= (2 * weight - 1) * most
            while (6 * sums[i] >= (2L * trained + 1) * most) {
                trained++;
            }
            different += trained != weights[i] ? 1 : 0;
            weights[i] = trained;
        }
        return different;
    }
}
