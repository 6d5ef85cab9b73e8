import java.util.HashSet;
import java.util.Set;

/** Each sentence of "What it is" and "Terms" that names a boundary case, by a test of its own. */
public final class TermBoundariesTest {
    private static final int NO_SUCH = CoinRows.NO_SUCH;
    private static final int BAD_VALUE = CoinRows.BAD_VALUE;
    private static final int TOO_MANY = CoinRows.TOO_MANY;
    private static final int NOT_POSSIBLE = CoinRows.NOT_POSSIBLE;
    private static final int NONE = CoinRows.NONE;
    private static final int BEGIN = CoinRows.BEGIN;
    private static final int STEP = CoinRows.STEP;
    private static final int LETTER = CoinRows.LETTER;

    private final Due due = new Due();

    public static void main(String[] args) {
        TermBoundariesTest test = new TermBoundariesTest();
        test.due.runAll(test);
        test.due.end("TermBoundariesTest");
    }

    private static boolean isLoud(int coin) {
        return coin < 4;
    }

    private void fraction(String name, long upper, long lower, long wantUpper, long wantLower) {
        due.same(name + ", upper number", upper, wantUpper);
        due.same(name + ", lower number", lower, wantLower);
    }

    // ---- what it is, conventions

    /** "An object is used for at most 512 calls": the last one is answered like any other. */
    void theLastOf512CallsIsAnswered() {
        CoinRows x = new CoinRows();
        for (int i = 0; i < 509; i++) {
            due.same("give " + i, x.give(BEGIN, 3, 0, i % 4), i == 0 ? 0 : (i - 1) % 4);
        }
        due.same("call 510", x.count(3), 6);
        due.same("call 511", x.undo(), 5);
        due.same("call 512", x.weight(BEGIN, 3, 0), 507 % 4);
    }

    void theLastOf512DearCallsIsAnswered() {
        CoinRows x = Due.loaded(Examples.SILENT);
        for (int i = 0; i < 500; i++) {
            due.same("likeliest " + i, x.likeliest(-1), 5);
        }
        due.same("call behind them", x.way(5, 3), 5);
    }

    /** "A call that returns an error changes nothing": in a state that is full. */
    void anErrorChangesNothingInAFullState() {
        String want = Examples.wholeState(full());
        CoinRows x = full();
        long[] errors = {x.give(-1, 0, 0, 2), x.give(3, 0, 0, 2), x.give(BEGIN, 1, 0, 4), x.give(BEGIN, 6, 0, 2), x.give(BEGIN, 1, 1, 2),
            x.give(STEP, 0, 6, 2), x.give(STEP, 5, 4, 2), x.give(LETTER, 4, 0, 2), x.give(LETTER, 0, 4, 2), x.add(0), x.add(4), x.add(-1),
            x.put(0), x.put(32), x.put(0x4100L), x.put(Due.packed("ab")), x.put(Due.packed("abcdabcd")), x.save(-1), x.save(2),
            x.restore(1), x.restore(-1), x.restore(2), x.weight(3, 0, 0), x.letter(6), x.forward(6, 0), x.backward(-1, 0), x.way(1 << 24, 0),
            x.way(0, -2), x.weighs(-1), x.likeliest(-3), x.odds(0, 4, 0), x.odds(0, 0, 2), x.likelyAt(6), x.expected(STEP, 0, 0, 2),
            x.expected(STEP, 0, 6, 0), x.next(0), x.next(2), x.slip(3), x.count(4)};
        for (int i = 0; i < errors.length; i++) {
            due.same("is an error: " + i, errors[i] < 0 && errors[i] > NONE ? 1 : 0, 1);
        }
        due.same("the state", Examples.wholeState(x), want);
    }

    /** Six letters, six changes to be undone, the slot 0 saved, and 79 characters on the pad that can be loaded. */
    private static CoinRows full() {
        CoinRows x = new CoinRows();
        Due.putText(x, "@13;1>12;1=a2;!abcda");
        x.load();
        x.save(0);
        x.add(3);
        for (int i = 0; i < 6; i++) {
            x.give(STEP, 0, i, i % 4);
        }
        Due.putText(x, "!abcdab;".repeat(9) + "@22;!ab");
        return x;
    }

    /** The same in a state that is empty, with a fault on the pad. */
    void anErrorChangesNothingInAnEmptyState() {
        CoinRows calm = new CoinRows();
        CoinRows x = new CoinRows();
        Due.putText(calm, "@12;@");
        Due.putText(x, "@12;@");
        due.same("cut", x.cut(), NOT_POSSIBLE);
        due.same("train", x.train(), NOT_POSSIBLE);
        due.same("load", x.load(), CoinRows.BAD_TEXT);
        due.same("undo", x.undo(), NOT_POSSIBLE);
        due.same("restore", x.restore(0), NOT_POSSIBLE);
        due.same("the state", Examples.wholeState(x), Examples.wholeState(calm));
    }

    /** The same where the total is 0. */
    void anErrorChangesNothingWithoutWays() {
        CoinRows calm = Due.loaded(Examples.DEAD);
        CoinRows x = Due.loaded(Examples.DEAD);
        due.same("train", x.train(), NOT_POSSIBLE);
        due.same("likeliest", x.likeliest(-2), NOT_POSSIBLE);
        due.same("odds", x.odds(0, 0, 0), NOT_POSSIBLE);
        due.same("likelyAt", x.likelyAt(0), NOT_POSSIBLE);
        due.same("expected", x.expected(BEGIN, 0, 0, 0), NOT_POSSIBLE);
        due.same("shareBits", x.shareBits(), NOT_POSSIBLE);
        due.same("the state", Examples.wholeState(x), Examples.wholeState(calm));
    }

    /** What only tells something changes nothing, and is not recorded as a change. */
    void whatIsAskedChangesNothing() {
        CoinRows x = Due.loaded(Examples.SILENT);
        Due.putText(x, "@12");
        x.total();
        x.forward(0, 0);
        x.backward(0, 0);
        x.ways();
        x.way(3, 1);
        x.weighs(3);
        x.likeliest(1);
        x.odds(0, 0, 0);
        x.likelyAt(0);
        x.expected(STEP, 0, 4, 0);
        x.shareBits();
        x.next(0);
        x.next(1);
        x.slip(0);
        x.slip(2);
        x.count(3);
        x.fault();
        x.letter(0);
        x.weight(STEP, 0, 4);
        CoinRows calm = Due.loaded(Examples.SILENT);
        Due.putText(calm, "@12");
        due.same("the state", Examples.wholeState(x), Examples.wholeState(calm));
    }

    /** "NONE .. is returned only if no error applies". */
    void noneIsReturnedOnlyIfNoErrorApplies() {
        due.same("a place that a way has not, of no way", Due.loaded(Examples.PAIR).way(4, 2), NO_SUCH);
        due.same("the same of a way", Due.loaded(Examples.PAIR).way(3, 2), NONE);
        due.same("a place that the likeliest way has not, without ways", Due.loaded(Examples.DEAD).likeliest(9), NOT_POSSIBLE);
        due.same("the same with ways", Due.loaded(Examples.PAIR).likeliest(9), NONE);
        due.same("no next letter behind six", Due.loaded("0>00", "!abcdab").next(0), NOT_POSSIBLE);
        due.same("the same behind five", Due.loaded("0>00", "!abcda").next(0), NONE);
        due.same("a bad what where there is no next letter", Due.loaded(Examples.DEAD).next(2), BAD_VALUE);
        due.same("a bad what where there is no slip", new CoinRows().slip(3), BAD_VALUE);
        due.same("the same with a good one", new CoinRows().slip(2), NONE);
    }

    /** "Everything is numbered from 0." */
    void everythingIsNumberedFrom0() {
        CoinRows x = Due.loaded("@00;@01;0=a2;0=b3;!ab");
        due.same("the first letter", x.letter(0), 0);
        due.same("the second letter", x.letter(1), 1);
        due.same("the first way", x.weighs(0), 6);
        due.same("the first coin of a way", x.way(0, 0), 0);
        due.same("the first place", x.forward(0, 0), 2);
    }

    /** "Fractions are told in lowest terms". */
    void fractionsAreToldInLowestTerms() {
        CoinRows x = Due.loaded(Examples.PAIR);
        fraction("4 by 46", x.odds(0, 0, 0), x.odds(0, 0, 1), 2, 23);
        fraction("36 by 46", x.expected(STEP, 1, 0, 0), x.expected(STEP, 1, 0, 1), 18, 23);
        x = Due.loaded(Examples.SILENT);
        fraction("45 by 45", x.odds(0, 0, 0), x.odds(0, 0, 1), 1, 1);
        x = Due.loaded("!abab");
        fraction("3 by 1", x.expected(STEP, 0, 0, 0), x.expected(STEP, 0, 0, 1), 3, 1);
        x = Examples.heavy();
        fraction("the greatest numbers", x.odds(0, 0, 0), x.odds(0, 0, 1), 1, 4);
    }

    /** "(0 is 0 by 1)". */
    void zeroIs0By1() {
        CoinRows x = Due.loaded(Examples.PAIR);
        fraction("odds", x.odds(0, 2, 0), x.odds(0, 2, 1), 0, 1);
        fraction("a step", x.expected(STEP, 2, 2, 0), x.expected(STEP, 2, 2, 1), 0, 1);
        fraction("a letter", x.expected(LETTER, 0, 2, 0), x.expected(LETTER, 0, 2, 1), 0, 1);
        fraction("a beginning", x.expected(BEGIN, 4, 0, 0), x.expected(BEGIN, 4, 0, 1), 0, 1);
    }

    // ---- coins

    /** "There are 6 coins". */
    void thereAreSixCoins() {
        for (int coin = -1; coin <= 6; coin++) {
            boolean is = coin >= 0 && coin < 6;
            due.same("begin of " + coin, new CoinRows().give(BEGIN, coin, 0, 3), is ? coin == 0 ? 1 : 0 : NO_SUCH);
            due.same("step from " + coin, new CoinRows().give(STEP, coin, 2, 3), is ? 0 : NO_SUCH);
            due.same("step to " + coin, new CoinRows().give(STEP, 3, coin, 3), is ? 0 : NO_SUCH);
        }
    }

    /** "0 to 3 are loud, 4 and 5 are silent": a silent coin tells no letter, so a way of silent coins alone tells nothing. */
    void coins0To3AreLoud4And5AreSilent() {
        for (int coin = 0; coin < 6; coin++) {
            CoinRows x = Due.loaded("@00;!a", "@" + coin + "2");
            due.same("letter of " + coin, x.give(LETTER, coin, 0, 3), coin == 0 ? 1 : coin < 4 ? 0 : NO_SUCH);
            due.same("total by " + coin, x.total(), coin < 4 ? 6 : 0);
            due.same("ways by " + coin, x.ways(), coin < 4 ? 1 : 0);
            due.same("forward of " + coin, x.forward(0, coin), coin < 4 ? 6 : NO_SUCH);
        }
    }

    /** "There are 4 letters, a to d (0 to 3)". */
    void thereAreFourLetters() {
        for (int letter = -1; letter <= 4; letter++) {
            boolean is = letter >= 0 && letter < 4;
            due.same("add " + letter, new CoinRows().add(letter), is ? 1 : BAD_VALUE);
            due.same("weight of " + letter, new CoinRows().weight(LETTER, 0, letter), is ? 1 : NO_SUCH);
            CoinRows x = Due.loaded("!" + (is ? (char) ('a' + letter) : 'a'));
            due.same("the letter of the text", x.letter(0), is ? letter : 0);
        }
    }

    /** "All weights are 0 to 3." */
    void allWeightsAre0To3() {
        CoinRows x = new CoinRows();
        for (int kind = BEGIN; kind <= LETTER; kind++) {
            due.same("-1", x.give(kind, 1, 0, -1), BAD_VALUE);
            due.same("0", x.give(kind, 1, 0, 0), 0);
            due.same("3", x.give(kind, 1, 0, 3), 0);
            due.same("4", x.give(kind, 1, 0, 4), BAD_VALUE);
            due.same("what it is then", x.weight(kind, 1, 0), 3);
        }
    }

    /** "There is a weight for each step from a coin to a coin (also to itself)". */
    void thereIsAStepFromALoudCoinToItself() {
        for (int coin = 0; coin < 4; coin++) {
            CoinRows x = Examples.bare();
            due.same("to itself " + coin, x.give(STEP, coin, coin, 3), 0);
            x.give(BEGIN, coin, 0, 1);
            x.give(LETTER, coin, 2, 1);
            x.add(2);
            x.add(2);
            due.same("total by " + coin, x.total(), 3);
        }
    }

    /** "For steps from 4 to 4, from 5 to 5 and from 5 to 4 it is 0 and cannot be another one"; all others can. */
    void threeStepsAre0AndNoOthers() {
        CoinRows x = new CoinRows();
        for (int coin = 0; coin < 6; coin++) {
            for (int to = 0; to < 6; to++) {
                boolean barred = coin == 4 && to == 4 || coin == 5 && to >= 4;
                String step = coin + " to " + to;
                due.same("1 for " + step, x.give(STEP, coin, to, 1), barred ? NOT_POSSIBLE : coin + to == 0 ? 1 : 0);
                due.same("3 for " + step, x.give(STEP, coin, to, 3), barred ? NOT_POSSIBLE : 1);
                due.same("then " + step, x.weight(STEP, coin, to), barred ? 0 : 3);
                due.same("0 for " + step, x.give(STEP, coin, to, 0), barred ? 0 : 3);
            }
        }
    }

    /** The same by training: such a step stays 0. */
    void threeStepsStay0ByTraining() {
        CoinRows x = Examples.heavy();
        x.train();
        due.same("4 to 4", x.weight(STEP, 4, 4), 0);
        due.same("5 to 5", x.weight(STEP, 5, 5), 0);
        due.same("5 to 4", x.weight(STEP, 5, 4), 0);
        due.same("4 to 5", x.weight(STEP, 4, 5), 3);
    }

    /** "At first the coin 0 has 1 to begin, for the step to itself, and for each letter; all other weights are 0." */
    void atFirst() {
        CoinRows x = new CoinRows();
        for (int coin = 0; coin < 6; coin++) {
            due.same("begin " + coin, x.weight(BEGIN, coin, 0), coin == 0 ? 1 : 0);
            for (int to = 0; to < 6; to++) {
                due.same("step " + coin + " to " + to, x.weight(STEP, coin, to), coin == 0 && to == 0 ? 1 : 0);
                if (coin < 4 && to < 4) {
                    due.same("letter " + coin + " " + to, x.weight(LETTER, coin, to), coin == 0 ? 1 : 0);
                }
            }
        }
    }

    // ---- ways

    /** "The row is a row of at most 6 letters". */
    void theRowHasAtMostSixLetters() {
        CoinRows x = Due.loaded("!abcda");
        due.same("the sixth", x.add(1), 6);
        due.same("the seventh", x.add(2), TOO_MANY);
        due.same("the last one then", x.letter(5), 1);
        due.same("behind it", x.letter(6), NO_SUCH);
        x.cut();
        due.same("another sixth", x.add(3), 6);
    }

    /** "(none at first)". */
    void theRowHasNoLetterAtFirst() {
        CoinRows x = new CoinRows();
        due.same("length", x.count(0), 0);
        due.same("letter", x.letter(0), NO_SUCH);
        due.same("cut", x.cut(), NOT_POSSIBLE);
    }

    /** "Its loud coins are as many as the letters". */
    void loudCoinsAreAsManyAsLetters() {
        for (int letters = 0; letters <= 6; letters++) {
            CoinRows x = Due.loaded("@41;@51;0>41;0>51;4>01;4>51;5>01");
            for (int i = 0; i < letters; i++) {
                x.add(i % 4);
            }
            int ways = x.ways();
            due.same("ways of " + letters, ways, 1 << 2 * letters);
            for (int way : new int[] {0, ways / 2, ways / 3, ways - 1}) {
                int loud = 0;
                int size = x.way(way, -1);
                for (int i = 0; i < size; i++) {
                    loud += isLoud(x.way(way, i)) ? 1 : 0;
                }
                due.same("loud coins for " + letters, loud, letters);
            }
        }
    }

    /** "It ends with a loud coin": silent coins behind the last letter make no ways. */
    void aWayEndsWithALoudCoin() {
        CoinRows x = Due.loaded("0>43;0>53;4>53;!a");
        due.same("ways", x.ways(), 1);
        due.same("total", x.total(), 1);
        due.same("coins", x.way(0, -1), 1);
        due.same("expected step to 4", x.expected(STEP, 0, 4, 0), 0);
        due.same("expected step to 5", x.expected(STEP, 0, 5, 0), 0);
        x = Due.loaded("@43;@53;4>53");
        due.same("ways of the empty row", x.ways(), 1);
        due.same("total of the empty row", x.total(), 1);
    }

    /** Ahead of a loud coin there may be no silent coin, either one, or 4 and then 5: no more. */
    void aWayHasAtMostThreeCoinsALetter() {
        CoinRows x = Due.loaded("@00;@41;0>00;0>41;4>51;5>01;!abcdab");
        due.same("ways", x.ways(), 1);
        due.same("coins", x.way(0, -1), 18);
        due.same("the last one", x.way(0, 17), 0);
        due.same("the one before", x.way(0, 16), 5);
        due.same("behind it", x.way(0, 18), NONE);
        due.same("coins of the likeliest", x.likeliest(-1), 18);
    }

    /** "Only ways that weigh more than 0 are ways of the row": by each kind of weight. */
    void waysThatWeigh0AreNone() {
        String[] nought = {"@10", "@00", "0>00", "0>10", "1>00", "1>10", "0=a0", "0=b0", "1=a0", "1=b0"};
        int[] left = {2, 2, 3, 3, 3, 3, 2, 2, 2, 2};
        due.same("all", Due.loaded(Examples.PAIR).ways(), 4);
        for (int i = 0; i < nought.length; i++) {
            CoinRows x = Due.loaded(Examples.PAIR[0], Examples.PAIR[1], nought[i]);
            due.same("ways by " + nought[i], x.ways(), left[i]);
            due.same("the last by " + nought[i], x.weighs(left[i] - 1) > 0 ? 1 : 0, 1);
            due.same("no more by " + nought[i], x.weighs(left[i]), NO_SUCH);
        }
    }

    /** "(For an empty row there is one way, without coins, which weighs 1.)" */
    void theEmptyRowHasOneWay() {
        for (CoinRows x : new CoinRows[] {new CoinRows(), Examples.bare(), Examples.heavy(0), Due.loaded(Examples.DEAD[0], "!")}) {
            due.same("ways", x.ways(), 1);
            due.same("total", x.total(), 1);
            due.same("coins", x.way(0, -1), 0);
            due.same("no first coin", x.way(0, 0), NONE);
            due.same("weighs", x.weighs(0), 1);
            due.same("no second way", x.weighs(1), NO_SUCH);
            due.same("likeliest", x.likeliest(-2), 0);
            due.same("its coins", x.likeliest(-1), 0);
        }
    }

    /** "Ways are in the order of their first coins, then of the second ones, and so on": none twice, and all. */
    void waysAreInTheOrderOfTheirCoins() {
        String before = "";
        long together = 0;
        Set<String> all = new HashSet<>();
        for (int way = 0; way < 256; way++) {
            CoinRows x = Examples.heavy(2);
            StringBuilder coins = new StringBuilder();
            int size = x.way(way, -1);
            for (int i = 0; i < size; i++) {
                coins.append(x.way(way, i));
            }
            due.same(before + " ahead of " + coins, before.compareTo(coins.toString()) < 0 ? 1 : 0, 1);
            before = coins.toString();
            all.add(before);
            together += x.weighs(way);
        }
        due.same("ways", all.size(), 256);
        due.same("the last one", before, "5353");
        due.same("they weigh together", together, 576 * 576);
        due.same("total", Examples.heavy(2).total(), 576 * 576);
    }

    /** "Something is possible only if the total is above 0 where this is told": and not where it is not told. */
    void withoutWaysOnlyWhatIsToldIsNotPossible() {
        CoinRows x = Due.loaded("0=a0;!ba");
        due.same("total", x.total(), 0);
        due.same("ways", x.ways(), 0);
        due.same("forward", x.forward(0, 0), 1);
        due.same("forward at the end", x.forward(1, 0), 0);
        due.same("backward", x.backward(0, 0), 0);
        due.same("backward at the end", x.backward(1, 0), 1);
        due.same("way", x.way(0, 0), NO_SUCH);
        due.same("weighs", x.weighs(0), NO_SUCH);
        due.same("slip", x.slip(1), 1);
        due.same("next", x.next(0), NONE);
        due.same("save", x.save(0), 2);
        due.same("train", x.train(), NOT_POSSIBLE);
        due.same("likeliest", x.likeliest(-2), NOT_POSSIBLE);
        due.same("odds", x.odds(0, 0, 0), NOT_POSSIBLE);
        due.same("likelyAt", x.likelyAt(0), NOT_POSSIBLE);
        due.same("expected", x.expected(BEGIN, 0, 0, 0), NOT_POSSIBLE);
        due.same("shareBits", x.shareBits(), NOT_POSSIBLE);
    }

    /** A total of 1 is above 0. */
    void aTotalOf1IsEnough() {
        CoinRows x = Due.loaded("!a");
        due.same("total", x.total(), 1);
        due.same("likeliest", x.likeliest(-2), 0);
        due.same("odds", x.odds(0, 0, 0), 1);
        due.same("likelyAt", x.likelyAt(0), 0);
        due.same("expected", x.expected(BEGIN, 0, 0, 0), 1);
        due.same("shareBits", x.shareBits(), 0x3f800000);
        due.same("train", x.train(), 5);
    }

    /** "The place of a letter is that of the loud coin that tells it": not the index among all coins of the way. */
    void aPlaceIsThatOfALoudCoin() {
        CoinRows x = Due.loaded("@00;@43;4>12;1>51;5>23;1=a1;2=b1;!ab");
        due.same("the first coin of the way", x.way(0, 0), 4);
        due.same("the second", x.way(0, 1), 1);
        due.same("forward at 0", x.forward(0, 1), 6);
        due.same("forward at 1", x.forward(1, 2), 18);
        due.same("backward at 0", x.backward(0, 1), 3);
        due.same("odds at 0", x.odds(0, 1, 0), 1);
        due.same("odds at 1", x.odds(1, 2, 0), 1);
        due.same("odds of another", x.odds(1, 1, 0), 0);
        due.same("likeliest at 0", x.likelyAt(0), 1);
        due.same("likeliest at 1", x.likelyAt(1), 2);
        due.same("no third place, though the way has a third coin", x.likelyAt(2), NO_SUCH);
    }

    // ---- odds, training

    /** "(for an empty row they are 0)". */
    void expectedNumbersOfAnEmptyRowAre0() {
        for (CoinRows x : new CoinRows[] {new CoinRows(), Examples.heavy(0), Examples.bare()}) {
            fraction("begin", x.expected(BEGIN, 0, 0, 0), x.expected(BEGIN, 0, 0, 1), 0, 1);
            fraction("begin silent", x.expected(BEGIN, 5, 0, 0), x.expected(BEGIN, 5, 0, 1), 0, 1);
            fraction("step", x.expected(STEP, 0, 0, 0), x.expected(STEP, 0, 0, 1), 0, 1);
            fraction("letter", x.expected(LETTER, 0, 0, 0), x.expected(LETTER, 0, 0, 1), 0, 1);
        }
        CoinRows x = Due.loaded(Examples.PAIR);
        x.total();
        x.cut();
        x.expected(BEGIN, 1, 0, 0);
        x.cut();
        fraction("a row that was cut", x.expected(BEGIN, 1, 0, 0), x.expected(BEGIN, 1, 0, 1), 0, 1);
    }

    /** "What a way weighs times how often it makes the step": and how often a coin tells a letter. */
    void whatComesTwiceCountsTwice() {
        CoinRows x = Due.loaded("!aaaaaa");
        fraction("five steps", x.expected(STEP, 0, 0, 0), x.expected(STEP, 0, 0, 1), 5, 1);
        fraction("six letters", x.expected(LETTER, 0, 0, 0), x.expected(LETTER, 0, 0, 1), 6, 1);
        fraction("one beginning", x.expected(BEGIN, 0, 0, 0), x.expected(BEGIN, 0, 0, 1), 1, 1);
    }

    /** "All by the weights as they were before": by new weights to begin there would be no step from 0. */
    void trainingIsByTheWeightsBefore() {
        CoinRows x = Due.loaded(Examples.PAIR);
        x.train();
        due.same("begin of 0", x.weight(BEGIN, 0, 0), 0);
        due.same("step 0 to 0", x.weight(STEP, 0, 0), 3);
        due.same("step 0 to 1", x.weight(STEP, 0, 1), 3);
        due.same("0 tells a no more", x.weight(LETTER, 0, 0), 0);
        due.same("0 tells b", x.weight(LETTER, 0, 1), 3);
    }

    /** The weights to begin, by one letter: the expected numbers are as the products of two weights. */
    private static CoinRows beginnings(int first, int firstLetter, int second, int secondLetter) {
        return Due.loaded("@0" + first + ";0=a" + firstLetter + ";@1" + second + ";1=a" + secondLetter, "!a");
    }

    /** "Rounded to the nearest whole number (a half up)": 0.5, 1.5 and 2.5 go up. */
    void aHalfGoesUp() {
        CoinRows x = beginnings(1, 1, 2, 3);
        x.train();
        due.same("3 by 6", x.weight(BEGIN, 0, 0), 1);
        x = beginnings(1, 1, 1, 2);
        x.train();
        due.same("3 by 2", x.weight(BEGIN, 0, 0), 2);
        // the coin 5 begins what weighs 2 + 3 by the coins 1 and 2, the coin 0 what weighs 6
        x = Due.loaded("@02;0=a3;@51;5>12;5>23;1=a1;2=a1;!a");
        x.train();
        due.same("15 by 6", x.weight(BEGIN, 5, 0), 3);
        due.same("the greatest", x.weight(BEGIN, 0, 0), 3);
    }

    /** "Rounded to the nearest": below a half it goes down, above a half up. */
    void otherPartsGoToTheNearest() {
        CoinRows x = beginnings(1, 1, 3, 3);
        x.train();
        due.same("3 by 9", x.weight(BEGIN, 0, 0), 0);
        x = beginnings(2, 1, 3, 3);
        x.train();
        due.same("6 by 9", x.weight(BEGIN, 0, 0), 1);
        x = beginnings(2, 2, 3, 3);
        x.train();
        due.same("12 by 9", x.weight(BEGIN, 0, 0), 1);
        x = beginnings(2, 3, 3, 3);
        x.train();
        due.same("18 by 9", x.weight(BEGIN, 0, 0), 2);
        x = beginnings(3, 1, 2, 2);
        x.train();
        due.same("9 by 4", x.weight(BEGIN, 0, 0), 2);
        // 3 * 8 by 9 is above 2.5
        x = Due.loaded("@03;0=a3;@52;5>12;5>22;1=a1;2=a1;!a");
        x.train();
        due.same("24 by 9", x.weight(BEGIN, 5, 0), 3);
    }

    /** Each weight becomes 3 times its part of the greatest one: the greatest is 3 then, whatever it was. */
    void theGreatestOfAGroupBecomes3() {
        CoinRows x = Due.loaded("@01;0=a1;0=b1;!aab");
        due.same("train", x.train(), 6);
        due.same("begin", x.weight(BEGIN, 0, 0), 3);
        due.same("step", x.weight(STEP, 0, 0), 3);
        due.same("letter a, told twice", x.weight(LETTER, 0, 0), 3);
        due.same("letter b, told once", x.weight(LETTER, 0, 1), 2);
        due.same("letter c, never told", x.weight(LETTER, 0, 2), 0);
        due.same("letter d, never told", x.weight(LETTER, 0, 3), 0);
    }

    /** "For each coin the weights of its steps": the coin 1 makes few steps, yet its greatest becomes 3. */
    void eachCoinsStepsAreAGroup() {
        CoinRows x = Due.loaded("0>03;0>11;1>01;1=b1;!aaaba");
        x.train();
        due.same("0 to 0", x.weight(STEP, 0, 0), 3);
        due.same("1 to 0", x.weight(STEP, 1, 0), 3);
        x = Due.loaded("@41;4>01;4>51;5>01;!a");
        x.train();
        due.same("4 to 0", x.weight(STEP, 4, 0), 3);
        due.same("4 to 5", x.weight(STEP, 4, 5), 3);
        due.same("5 to 0", x.weight(STEP, 5, 0), 3);
    }

    /** "For each loud coin the weights of its letters": the coin 1 tells few letters, yet its greatest becomes 3. */
    void eachLoudCoinsLettersAreAGroup() {
        CoinRows x = Due.loaded("0=a3;@11;1>01;1=a1;!aaaa");
        x.train();
        due.same("a by 0", x.weight(LETTER, 0, 0), 3);
        due.same("a by 1", x.weight(LETTER, 1, 0), 3);
    }

    /** "A group whose expected numbers are all 0 stays as it is." */
    void aGroupWithoutExpectedNumbersStays() {
        CoinRows x = Due.loaded("2>12;2>43;2=c3;2=d1;5>11;0>02;!a");
        x.train();
        due.same("step 2 to 1", x.weight(STEP, 2, 1), 2);
        due.same("step 2 to 4", x.weight(STEP, 2, 4), 3);
        due.same("letter c by 2", x.weight(LETTER, 2, 2), 3);
        due.same("letter d by 2", x.weight(LETTER, 2, 3), 1);
        due.same("step 5 to 1", x.weight(STEP, 5, 1), 1);
        due.same("step 0 to 0 is not made by one letter", x.weight(STEP, 0, 0), 2);
    }

    /** The same for all groups of the coins that no way comes to: nothing of them is different. */
    void groupsOfCoinsThatNoWayComesToStay() {
        for (int used = 0; used < 4; used++) {
            CoinRows x = Examples.bare();
            for (int coin = 0; coin < 6; coin++) {
                for (int to = 0; to < 6; to++) {
                    x.give(STEP, coin, to, coin == used ? coin == to ? 1 : 0 : 2);
                    x.give(LETTER, coin, to, coin == used ? to == 2 ? 1 : 0 : 1);
                }
            }
            x.give(BEGIN, used, 0, 1);
            x.add(2);
            x.add(2);
            int weights = x.count(1);
            due.same("different by " + used, x.train(), 3);
            due.same("weights by " + used, x.count(1), weights);
            for (int coin = 0; coin < 6; coin++) {
                for (int to = 0; to < 4; to++) {
                    due.same("step " + coin + " to " + to, x.weight(STEP, coin, to), coin == used ? coin == to ? 3 : 0 : 2);
                    int letter = coin > 3 ? NO_SUCH : coin == used ? to == 2 ? 3 : 0 : 1;
                    due.same("letter " + to + " by " + coin, x.weight(LETTER, coin, to), letter);
                }
            }
        }
    }

    /** A weight whose expected number is 0 becomes 0 if another one of its group is not. */
    void aWeightThatIsNotExpectedBecomes0() {
        CoinRows x = Due.loaded("@13;0>13;0=b3;!aa");
        x.train();
        due.same("begin of 1", x.weight(BEGIN, 1, 0), 0);
        due.same("step 0 to 1", x.weight(STEP, 0, 1), 0);
        due.same("letter b by 0", x.weight(LETTER, 0, 1), 0);
        due.same("letter a by 0", x.weight(LETTER, 0, 0), 3);
    }

    /** "(The expected number of a weight to begin is the odds that a way begins so.)": also with a silent coin. */
    void aWayCanBeginWithASilentCoin() {
        CoinRows x = Due.loaded("@51;5>02;!a");
        fraction("begin of 5", x.expected(BEGIN, 5, 0, 0), x.expected(BEGIN, 5, 0, 1), 2, 3);
        fraction("begin of 0", x.expected(BEGIN, 0, 0, 0), x.expected(BEGIN, 0, 0, 1), 1, 3);
        x.train();
        due.same("trained 5", x.weight(BEGIN, 5, 0), 3);
        due.same("trained 0", x.weight(BEGIN, 0, 0), 2);
    }

    // ---- texts

    private void faultOf(String text, int fault) {
        CoinRows x = new CoinRows();
        Due.putText(x, text);
        due.same("fault of " + text, x.fault(), fault);
    }

    /** A text that lacks its last character: each character stands there, or is the fault. */
    private void lastCharacter(String start, String allowed) {
        for (char sign = 33; sign <= 126; sign++) {
            CoinRows x = new CoinRows();
            Due.putText(x, start + sign);
            int fault = x.fault();
            boolean stands = fault == NONE || fault > start.length();
            due.same("stands behind " + start + ": " + sign, stands ? 1 : 0, allowed.indexOf(sign) >= 0 ? 1 : 0);
            if (!stands) {
                due.same("is the fault behind " + start + ": " + sign, fault, start.length());
            }
        }
    }

    /** "The pad is a text of at most 80 characters". */
    void thePadHasAtMost80Characters() {
        CoinRows x = new CoinRows();
        due.same("79", Due.putText(x, "@01;".repeat(19) + "@01"), 79);
        due.same("80", x.put(';'), 80);
        due.same("81", x.put('@'), TOO_MANY);
        due.same("still 80", x.count(2), 80);
        due.same("it ends too early", x.fault(), 80);
        x.wipe();
        Due.putText(x, "!;".repeat(36));
        due.same("72 and 9", x.put(Due.packed("!;!;!;!")), 79);
        due.same("79 and 2", x.put(Due.packed("ab")), TOO_MANY);
        due.same("79 and 1", x.put('a'), 80);
        due.same("parts of 80 characters", x.load(), 40);
        due.same("the row", x.count(0), 1);
        Due.putText(x, "!;".repeat(36));
        due.same("72 and 8", x.put(Due.packed("!abcdab;")), 80);
        x.wipe();
        Due.putText(x, "!;".repeat(36) + "!");
        due.same("73 and 8", x.put(Due.packed("!abcdab;")), TOO_MANY);
    }

    /** "text = part { ";" part }": no ";" ahead, none at the end, not two, and one between parts. */
    void partsStandBetweenSemicolons() {
        faultOf("@01", NONE);
        faultOf("@01;@11", NONE);
        faultOf(";@01", 0);
        faultOf("@01;", 4);
        faultOf("@01;;@11", 4);
        faultOf("@01@11", 3);
        faultOf("@01,@11", 3);
    }

    /** "A coin is a digit from 0 to 5", at the beginning of a part. */
    void aPartBeginsWithASignOrACoin() {
        lastCharacter("", "@!012345");
        lastCharacter("@01;", "@!012345");
    }

    void behindTheAtIsACoin() {
        lastCharacter("@", "012345");
    }

    /** "A weight [is] a digit from 0 to 3". */
    void behindThatIsAWeight() {
        lastCharacter("@0", "0123");
        lastCharacter("@5", "0123");
    }

    /** ""=" that of a letter (the coin is 0 to 3 then)". */
    void behindACoinIsASignOfItsKind() {
        for (char coin = '0'; coin <= '3'; coin++) {
            lastCharacter("" + coin, ">=");
        }
        lastCharacter("4", ">");
        lastCharacter("5", ">");
    }

    void behindTheStepIsACoin() {
        lastCharacter("0>", "012345");
        lastCharacter("4>", "012345");
        lastCharacter("5>", "012345");
    }

    /** "A letter is a to d". */
    void behindTheEqualSignIsALetter() {
        lastCharacter("0=", "abcd");
        lastCharacter("3=", "abcd");
    }

    void behindALetterIsAWeight() {
        lastCharacter("3=a", "0123");
        lastCharacter("0=d", "0123");
    }

    /** "The coins of a step that has to be 0 may stand there with the weight 0 alone." */
    void aStepThatHasToBe0HasTheWeight0() {
        for (char coin = '0'; coin <= '5'; coin++) {
            for (char to = '0'; to <= '5'; to++) {
                boolean barred = coin == '4' && to == '4' || coin == '5' && to >= '4';
                lastCharacter("" + coin + '>' + to, barred ? "0" : "0123");
            }
        }
    }

    /** ""!" gives the row (6 letters at most)": none is enough, and the seventh is the fault. */
    void theRowOfATextHasAtMostSixLetters() {
        for (int letters = 0; letters < 6; letters++) {
            lastCharacter("!" + "abcdab".substring(0, letters), "abcd;");
        }
        lastCharacter("!abcdab", ";");
        faultOf("!", NONE);
        faultOf("!abcdab", NONE);
        faultOf("!abcdabc", 7);
        faultOf("@01;!abcdabcd", 11);
        faultOf("!abcdab;!abcdab", NONE);
    }

    void behindAWholePartIsASemicolon() {
        lastCharacter("@01", ";");
        lastCharacter("0>01", ";");
        lastCharacter("0=a1", ";");
        lastCharacter("5>50", ";");
    }

    /** "The fault is the index of the first character that cannot stand at its place": not that of a later one. */
    void theFaultIsTheFirstOne() {
        faultOf("@6;@7", 1);
        faultOf("@04;@7", 2);
        faultOf("@01;#;#", 4);
        faultOf("zzz", 0);
        faultOf("!abcdabcdabcd", 7);
        faultOf("@01;@01;@01;@01;@01;@01;@01;@01;@01;@01;@01;@01;@01;@01;@01;@01;@01;@01;@01;@014", 79);
    }

    /** "If there is none and the text ends too early .., it is the length of the text". */
    void theFaultOfATextThatEndsTooEarlyIsItsLength() {
        String[] early = {"@", "@0", "0", "5", "0>", "0>1", "0=", "0=a", "@01;", "!;", "!a;", "!a;@", "@01;4>", "5>4"};
        for (String text : early) {
            faultOf(text, text.length());
        }
    }

    /** "(also if it is empty)". */
    void theFaultOfAnEmptyTextIs0() {
        faultOf("", 0);
        CoinRows x = new CoinRows();
        Due.putText(x, "@01");
        x.wipe();
        due.same("wiped", x.fault(), 0);
        Due.putText(x, "@01");
        x.load();
        due.same("loaded", x.fault(), 0);
        Due.putText(x, "@06");
        x.fault();
        x.wipe();
        due.same("wiped with a fault", x.fault(), 0);
    }
}
