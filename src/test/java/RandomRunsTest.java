/** Long runs of calls on the class and on the slow one side by side; the same runs every time. */
public final class RandomRunsTest {
    private static final int RUNS = 500;
    private static final int CALLS = 512;
    private static final int[] ODD_NUMBERS = {-1, -2, -3, -7, 6, 7, 18, 255, 256, 1 << 20, Integer.MAX_VALUE, Integer.MIN_VALUE};

    private final Due due = new Due();
    private final int run;
    private final CoinRows rows = new CoinRows();
    private final SlowCoins slow = new SlowCoins();
    private final StringBuilder told = new StringBuilder();
    private long seed;

    private RandomRunsTest(int run) {
        this.run = run;
        this.seed = run * 7919L + 17;
    }

    public static void main(String[] args) {
        int wrong = 0;
        for (int run = 0; run < RUNS && wrong == 0; run++) {
            RandomRunsTest test = new RandomRunsTest(run);
            for (int call = 0; call < CALLS && test.due.wrongAnswers() == 0; call++) {
                test.call();
            }
            wrong += test.due.wrongAnswers();
            if (wrong > 0) {
                System.out.println("in this run:\n" + test.told);
            }
        }
        System.out.println("RandomRunsTest: " + RUNS + " runs, " + wrong + " answers not as due");
        if (wrong != 0) {
            System.exit(1);
        }
    }

    private int below(int bound) {
        seed = seed * 6364136223846793005L + 1442695040888963407L;
        return (int) ((seed >>> 33) % bound);
    }

    /** A number below the bound; now and then one that is not. */
    private int number(int bound) {
        if (below(25) > 0) {
            return below(bound);
        }
        return below(3) == 0 ? bound : ODD_NUMBERS[below(ODD_NUMBERS.length)];
    }

    private void same(String call, long got, long want) {
        told.append("  ").append(call).append(" = ").append(want).append('\n');
        due.same("run " + run + ": " + call, got, want);
    }

    private void call() {
        int kind = below(20);
        if (kind < 8) {
            change();
        } else if (kind < 11) {
            text();
        } else if (kind < 12) {
            plain();
        } else if (slow.fewWays()) {
            if (kind < 15) {
                waysOfTheRow();
            } else if (kind < 18) {
                oddsOfTheRow();
            } else {
                otherRows();
            }
        } else {
            thin();
        }
    }

    /** Takes weights away when there are too many ways to write them out. */
    private void thin() {
        int coin = below(6);
        int to = below(6);
        same("give(1, " + coin + ", " + to + ", 0)", rows.give(1, coin, to, 0), slow.give(1, coin, to, 0));
        if (below(4) == 0) {
            same("cut()", rows.cut(), slow.cut());
        }
    }

    private void change() {
        switch (below(12)) {
            case 0, 1, 2, 3 -> give();
            case 4, 5, 6 -> {
                int letter = number(4);
                same("add(" + letter + ")", rows.add(letter), slow.add(letter));
            }
            case 7 -> same("cut()", rows.cut(), slow.cut());
            case 8 -> {
                if (slow.fewWays()) {
                    same("train()", rows.train(), slow.train());
                }
            }
            case 9 -> same("undo()", rows.undo(), slow.undo());
            case 10 -> {
                int slot = number(2);
                same("save(" + slot + ")", rows.save(slot), slow.save(slot));
            }
            default -> {
                int slot = number(2);
                same("restore(" + slot + ")", rows.restore(slot), slow.restore(slot));
            }
        }
    }

    private void give() {
        int kind = number(3);
        int coin = number(kind == 2 ? 4 : 6);
        int to = number(kind == 0 ? 1 : kind == 2 ? 4 : 6);
        int weight = number(4);
        String call = "give(" + kind + ", " + coin + ", " + to + ", " + weight + ")";
        same(call, rows.give(kind, coin, to, weight), slow.give(kind, coin, to, weight));
    }

    private void text() {
        switch (below(8)) {
            case 0 -> putNumber(below(2) == 0 ? strangeNumber() : Due.packed(";;".substring(below(2))));
            case 1 -> same("wipe()", rows.wipe(), slow.wipe());
            case 2 -> same("fault()", rows.fault(), slow.fault());
            case 3 -> same("load()", rows.load(), slow.load());
            default -> wholeText();
        }
    }

    private void putNumber(long characters) {
        same("put(" + characters + ")", rows.put(characters), slow.put(characters));
    }

    private long strangeNumber() {
        long number = Due.packed("0>12;!ab".substring(below(8)));
        return switch (below(5)) {
            case 0 -> number << 8 * below(8);
            case 1 -> number ^ 1L << below(64);
            case 2 -> number & ~(255L << 8 * below(8));
            case 3 -> -number;
            default -> below(2) == 0 ? 0 : number | 255L << 8 * below(8);
        };
    }

    private void wholeText() {
        StringBuilder text = new StringBuilder();
        for (int parts = below(7); parts >= 0; parts--) {
            text.append(part()).append(parts > 0 || below(20) == 0 ? ";" : "");
        }
        if (below(4) == 0 && text.length() > 0) {
            text.setCharAt(below(text.length()), "@>=!;0123456abcdez#~".charAt(below(20)));
        }
        if (below(8) > 0) {
            same("wipe()", rows.wipe(), slow.wipe());
        }
        for (int i = 0; i < text.length(); i += 8) {
            putNumber(Due.packed(text.substring(i, Math.min(text.length(), i + 8))));
        }
        same("fault()", rows.fault(), slow.fault());
        if (below(6) > 0) {
            same("load()", rows.load(), slow.load());
        }
    }

    private String part() {
        int weight = below(4);
        switch (below(7)) {
            case 0:
                return "@" + below(6) + weight;
            case 1, 2:
                return below(4) + "=" + (char) ('a' + below(4)) + weight;
            case 3:
                StringBuilder row = new StringBuilder("!");
                for (int letters = below(below(6) == 0 ? 8 : 7); letters > 0; letters--) {
                    row.append((char) ('a' + below(4)));
                }
                return row.toString();
            default:
                int coin = below(6);
                int to = below(6);
                return coin + ">" + to + (coin > 3 && to > 3 && below(5) > 0 ? 0 : weight);
        }
    }

    private void plain() {
        int what = number(4);
        same("count(" + what + ")", rows.count(what), slow.count(what));
        int place = number(6);
        same("letter(" + place + ")", rows.letter(place), slow.letter(place));
        int kind = number(3);
        int coin = number(kind == 2 ? 4 : 6);
        int to = number(kind == 0 ? 1 : kind == 2 ? 4 : 6);
        String call = "weight(" + kind + ", " + coin + ", " + to + ")";
        same(call, rows.weight(kind, coin, to), slow.weight(kind, coin, to));
    }

    private void waysOfTheRow() {
        int place = number(Math.max(1, slow.count(0)));
        int coin = number(4);
        int way = number(Math.max(1, slow.ways()));
        int what = number(8) - 2;
        switch (below(7)) {
            case 0 -> same("total()", rows.total(), slow.total());
            case 1 -> {
                if (slow.fewPiecesOfWays()) {
                    String call = "forward(" + place + ", " + coin + ")";
                    same(call, rows.forward(place, coin), slow.forward(place, coin));
                }
            }
            case 2 -> {
                if (slow.fewPiecesOfWays()) {
                    String call = "backward(" + place + ", " + coin + ")";
                    same(call, rows.backward(place, coin), slow.backward(place, coin));
                }
            }
            case 3 -> same("ways()", rows.ways(), slow.ways());
            case 4 -> same("way(" + way + ", " + what + ")", rows.way(way, what), slow.way(way, what));
            case 5 -> same("weighs(" + way + ")", rows.weighs(way), slow.weighs(way));
            default -> same("likeliest(" + what + ")", rows.likeliest(what), slow.likeliest(what));
        }
    }

    private void oddsOfTheRow() {
        int place = number(Math.max(1, slow.count(0)));
        int part = number(2);
        switch (below(5)) {
            case 0 -> {
                int coin = number(4);
                String call = "odds(" + place + ", " + coin + ", " + part + ")";
                same(call, rows.odds(place, coin, part), slow.odds(place, coin, part));
            }
            case 1 -> same("likelyAt(" + place + ")", rows.likelyAt(place), slow.likelyAt(place));
            case 2 -> same("shareBits()", rows.shareBits(), slow.shareBits());
            default -> {
                int kind = number(3);
                int coin = number(kind == 2 ? 4 : 6);
                int to = number(kind == 0 ? 1 : kind == 2 ? 4 : 6);
                String call = "expected(" + kind + ", " + coin + ", " + to + ", " + part + ")";
                same(call, rows.expected(kind, coin, to, part), slow.expected(kind, coin, to, part));
            }
        }
    }

    private void otherRows() {
        if (!slow.fewWaysOfOtherRows()) {
            return;
        }
        int what = number(3);
        if (below(2) == 0) {
            same("next(" + what + ")", rows.next(what), slow.next(what));
        } else {
            same("slip(" + what + ")", rows.slip(what), slow.slip(what));
        }
    }
}
