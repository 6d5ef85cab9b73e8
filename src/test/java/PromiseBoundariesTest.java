/** Each sentence of the promises that names a boundary case, by a test of its own; the names begin with the promise. */
public final class PromiseBoundariesTest {
    private static final int NO_SUCH = CoinRows.NO_SUCH;
    private static final int BAD_VALUE = CoinRows.BAD_VALUE;
    private static final int BAD_TEXT = CoinRows.BAD_TEXT;
    private static final int TOO_MANY = CoinRows.TOO_MANY;
    private static final int NOT_POSSIBLE = CoinRows.NOT_POSSIBLE;
    private static final int NONE = CoinRows.NONE;
    private static final int BEGIN = CoinRows.BEGIN;
    private static final int STEP = CoinRows.STEP;
    private static final int LETTER = CoinRows.LETTER;
    private static final int MIN = Integer.MIN_VALUE;
    private static final int MAX = Integer.MAX_VALUE;
    /** Kinds, coins, letters, places or weights that are none, whatever is asked for. */
    private static final int[] FAR = {-1, 7, 58, MIN, MAX, 1 << 16, -(1 << 16), 256};

    private final Due due = new Due();

    public static void main(String[] args) {
        PromiseBoundariesTest test = new PromiseBoundariesTest();
        test.due.runAll(test);
        test.due.end("PromiseBoundariesTest");
    }

    // ---- 1

    void p01BeginsWithAnEmptyRow() {
        CoinRows x = new CoinRows();
        due.same("length", x.count(0), 0);
        due.same("pad", x.count(2), 0);
        due.same("changes", x.count(3), 0);
        due.same("undo", x.undo(), NOT_POSSIBLE);
        due.same("restore 0", x.restore(0), NOT_POSSIBLE);
        due.same("restore 1", x.restore(1), NOT_POSSIBLE);
    }

    void p01ObjectsAreApart() {
        CoinRows other = Examples.heavy();
        other.put('@');
        other.save(0);
        due.same("a new one", Examples.wholeState(new CoinRows()), Examples.wholeState(new CoinRows()));
        due.same("its weights", new CoinRows().count(1), 6);
        due.same("its slot", new CoinRows().restore(0), NOT_POSSIBLE);
    }

    // ---- 2, 3

    void p02KindIsBeginStepOrLetter() {
        for (int kind = -1; kind <= 3; kind++) {
            due.same("kind " + kind, new CoinRows().give(kind, 0, 0, 2), kind < 0 || kind > 2 ? BAD_VALUE : 1);
        }
        for (int kind : FAR) {
            due.same("kind " + kind, new CoinRows().give(kind, 0, 0, 2), BAD_VALUE);
        }
    }

    void p02CoinIsALoudOneForALetter() {
        CoinRows x = new CoinRows();
        due.same("the last loud one", x.give(LETTER, 3, 0, 2), 0);
        due.same("the first silent one", x.give(LETTER, 4, 0, 2), NO_SUCH);
        due.same("the last silent one", x.give(LETTER, 5, 3, 2), NO_SUCH);
        due.same("the last silent one to begin", x.give(BEGIN, 5, 0, 2), 0);
        due.same("the last silent one for a step", x.give(STEP, 5, 3, 2), 0);
        due.same("none", x.give(BEGIN, 6, 0, 2), NO_SUCH);
        for (int coin : FAR) {
            for (int kind = BEGIN; kind <= LETTER; kind++) {
                due.same("coin " + coin, x.give(kind, coin, 0, 2), NO_SUCH);
            }
        }
    }

    void p02ToIs0ForBegin() {
        CoinRows x = new CoinRows();
        due.same("0", x.give(BEGIN, 2, 0, 2), 0);
        due.same("1", x.give(BEGIN, 2, 1, 2), NO_SUCH);
        for (int to : FAR) {
            due.same("to " + to, x.give(BEGIN, 2, to, 2), NO_SUCH);
        }
    }

    void p02ToIsACoinForAStep() {
        CoinRows x = new CoinRows();
        due.same("5", x.give(STEP, 2, 5, 2), 0);
        due.same("6", x.give(STEP, 2, 6, 2), NO_SUCH);
        for (int to : FAR) {
            due.same("to " + to, x.give(STEP, 2, to, 2), NO_SUCH);
        }
    }

    void p02ToIsALetterForALetter() {
        CoinRows x = new CoinRows();
        due.same("3", x.give(LETTER, 2, 3, 2), 0);
        due.same("4", x.give(LETTER, 2, 4, 2), NO_SUCH);
        for (int to : FAR) {
            due.same("to " + to, x.give(LETTER, 2, to, 2), NO_SUCH);
        }
    }

    void p02WeightIs0To3() {
        CoinRows x = new CoinRows();
        for (int weight = 0; weight <= 3; weight++) {
            due.same("weight " + weight, x.give(STEP, 2, 2, weight), Math.max(0, weight - 1));
        }
        due.same("4", x.give(STEP, 2, 2, 4), BAD_VALUE);
        for (int weight : FAR) {
            due.same("weight " + weight, x.give(STEP, 2, 2, weight), BAD_VALUE);
        }
    }

    void p02ReturnsTheWeightBefore() {
        CoinRows x = new CoinRows();
        due.same("first", x.give(LETTER, 0, 1, 3), 1);
        due.same("second", x.give(LETTER, 0, 1, 3), 3);
        due.same("third", x.give(LETTER, 0, 1, 0), 3);
        due.same("fourth", x.give(LETTER, 0, 1, 0), 0);
    }

    void p02BadValueAheadOfNoSuch() {
        CoinRows x = new CoinRows();
        due.same("kind and coin", x.give(3, 6, 0, 1), BAD_VALUE);
        due.same("kind and to", x.give(-1, 0, 6, 1), BAD_VALUE);
        due.same("weight and coin", x.give(BEGIN, 6, 0, 4), BAD_VALUE);
        due.same("weight and to", x.give(LETTER, 0, 4, -1), BAD_VALUE);
    }

    void p02BadValueAheadOfNotPossible() {
        due.same("weight of a step that has to be 0", new CoinRows().give(STEP, 5, 4, 4), BAD_VALUE);
        due.same("the same below 0", new CoinRows().give(STEP, 4, 4, -1), BAD_VALUE);
    }

    void p02NotPossibleOnlyAbove0() {
        CoinRows x = new CoinRows();
        due.same("0", x.give(STEP, 5, 4, 0), 0);
        due.same("which is a change", x.count(3), 1);
        due.same("1", x.give(STEP, 5, 4, 1), NOT_POSSIBLE);
        due.same("which is none", x.count(3), 1);
    }

    void p03Errors() {
        CoinRows x = new CoinRows();
        for (int far : FAR) {
            due.same("kind " + far, x.weight(far, 0, 0), BAD_VALUE);
            due.same("kind ahead of coin", x.weight(far, far, far), BAD_VALUE);
            for (int kind = BEGIN; kind <= LETTER; kind++) {
                due.same("coin " + far, x.weight(kind, far, 0), NO_SUCH);
                due.same("to " + far, x.weight(kind, 0, far), NO_SUCH);
            }
        }
        due.same("kind 3", x.weight(3, 0, 0), BAD_VALUE);
    }

    void p03RangesAsForGive() {
        CoinRows x = Examples.heavy();
        due.same("begin of 5", x.weight(BEGIN, 5, 0), 3);
        due.same("begin of 6", x.weight(BEGIN, 6, 0), NO_SUCH);
        due.same("begin to 1", x.weight(BEGIN, 0, 1), NO_SUCH);
        due.same("step 5 to 3", x.weight(STEP, 5, 3), 3);
        due.same("step 3 to 5", x.weight(STEP, 3, 5), 3);
        due.same("step 6 to 0", x.weight(STEP, 6, 0), NO_SUCH);
        due.same("step 0 to 6", x.weight(STEP, 0, 6), NO_SUCH);
        due.same("a step that has to be 0", x.weight(STEP, 5, 5), 0);
        due.same("letter d of 3", x.weight(LETTER, 3, 3), 3);
        due.same("letter of 4", x.weight(LETTER, 4, 0), NO_SUCH);
        due.same("letter 4", x.weight(LETTER, 3, 4), NO_SUCH);
    }

    /** No weight is another one: each is given by itself, and all others stay. */
    void p03EachWeightIsItsOwn() {
        for (int kind = BEGIN; kind <= LETTER; kind++) {
            for (int coin = 0; coin < (kind == LETTER ? 4 : 6); coin++) {
                for (int to = 0; to < (kind == BEGIN ? 1 : kind == STEP ? 6 : 4); to++) {
                    CoinRows x = Examples.bare();
                    boolean given = x.give(kind, coin, to, 2) == 0;
                    due.same("all together", x.count(1), given ? 1 : 0);
                    due.same("weight " + kind + " " + coin + " " + to, x.weight(kind, coin, to), given ? 2 : 0);
                }
            }
        }
    }

    // ---- 4, 5, 6

    void p04LetterIs0To3() {
        CoinRows x = new CoinRows();
        due.same("0", x.add(0), 1);
        due.same("3", x.add(3), 2);
        due.same("4", x.add(4), BAD_VALUE);
        for (int letter : FAR) {
            due.same("letter " + letter, x.add(letter), BAD_VALUE);
        }
        due.same("length", x.count(0), 2);
    }

    void p04TooManyIfItHasSix() {
        CoinRows x = new CoinRows();
        for (int length = 1; length <= 6; length++) {
            due.same("length then", x.add(2), length);
        }
        due.same("a seventh", x.add(2), TOO_MANY);
        due.same("again", x.add(0), TOO_MANY);
        due.same("changes", x.count(3), 6);
        due.same("the row", x.cut(), 2);
    }

    void p04BadValueAheadOfTooMany() {
        CoinRows x = Due.loaded("!abcdab");
        due.same("4", x.add(4), BAD_VALUE);
        due.same("-1", x.add(-1), BAD_VALUE);
    }

    void p05NotPossibleIfTheRowIsEmpty() {
        CoinRows x = new CoinRows();
        due.same("new", x.cut(), NOT_POSSIBLE);
        x.add(3);
        due.same("the only one", x.cut(), 3);
        due.same("none is left", x.cut(), NOT_POSSIBLE);
        due.same("changes", x.count(3), 2);
    }

    void p05TakesTheLastOfSix() {
        CoinRows x = Due.loaded("!abcdbc");
        int[] letters = {2, 1, 3, 2, 1, 0};
        for (int letter : letters) {
            due.same("letter", x.cut(), letter);
        }
        due.same("length", x.count(0), 0);
    }

    void p06NoSuchPlace() {
        CoinRows x = new CoinRows();
        due.same("of an empty row", x.letter(0), NO_SUCH);
        for (int length = 1; length <= 6; length++) {
            x.add(length % 4);
            due.same("the last one", x.letter(length - 1), length % 4);
            due.same("behind it", x.letter(length), NO_SUCH);
        }
        for (int place : FAR) {
            due.same("place " + place, x.letter(place), NO_SUCH);
        }
        x.cut();
        due.same("what was cut", x.letter(5), NO_SUCH);
    }

    // ---- 7

    void p07NotPossibleIfTheRowIsEmpty() {
        CoinRows x = new CoinRows();
        due.same("new", x.train(), NOT_POSSIBLE);
        x.add(0);
        due.same("one letter", x.train(), 5);
        x.cut();
        due.same("empty again", x.train(), NOT_POSSIBLE);
        due.same("changes", x.count(3), 3);
    }

    void p07NotPossibleIfTheTotalIs0() {
        CoinRows x = Due.loaded(Examples.DEAD);
        due.same("none", x.train(), NOT_POSSIBLE);
        due.same("changes", x.count(3), 1);
        x.give(LETTER, 0, 0, 1);
        due.same("one way", x.train(), 6);
    }

    void p07CountsWeightsThatAreDifferentThen() {
        CoinRows x = Due.loaded("!a");
        due.same("begin, a, and three letters that are not told", x.train(), 5);
        due.same("which is recorded", x.count(3), 2);
        due.same("nothing is different by training again", x.train(), 0);
        due.same("which is recorded, too", x.count(3), 3);
    }

    void p07CountsAWeightOnce() {
        due.same("in all groups", Due.loaded(Examples.PAIR).train(), 8);
    }

    void p07OfTheGreatestTotal() {
        CoinRows x = Examples.heavy();
        due.same("different", x.train(), 37);
        due.same("weights that are not 0", x.count(1), 2 + 4 * 2 + 1 + 4 + 16);
    }

    // ---- 8

    void p08OneToEightCharacters() {
        CoinRows x = new CoinRows();
        due.same("none", x.put(0), BAD_VALUE);
        String text = "!abcdab;";
        int length = 0;
        for (int number = 1; number <= 8; number++) {
            length += number;
            due.same("characters " + number, x.put(Due.packed(text.substring(0, number))), length);
        }
    }

    void p08TheLowestBitsAreTheLastCharacter() {
        CoinRows x = new CoinRows();
        due.same("put", x.put(0x403233L), 3);
        due.same("@23", x.load(), 1);
        due.same("weight", x.weight(BEGIN, 2, 0), 3);
        due.same("put of eight", x.put(0x403331213b403432L), 8);
        due.same("fault of @31!;@42", x.fault(), 3);
        x.wipe();
        x.put(0x403331L << 40 | 0x3b403432L << 8 | 0x3b);
        due.same("put of @31;@42;", x.count(2), 8);
        due.same("its fault", x.fault(), 8);
        x.put(0x3d);
        due.same("fault of what is behind", x.fault(), 8);
    }

    void p08CodesAre33To126() {
        for (int code = 0; code <= 255; code++) {
            boolean good = code >= 33 && code <= 126;
            CoinRows x = new CoinRows();
            due.same("code " + code, x.put(code), good ? 1 : BAD_VALUE);
            due.same("behind another one " + code, x.put(0x4100L | code), good ? x.count(2) : BAD_VALUE);
            long last = (long) code << 56 | 0x41414141414141L;
            boolean none = code == 0;
            due.same("ahead of seven " + code, new CoinRows().put(last), good ? 8 : none ? 7 : BAD_VALUE);
        }
        for (int i = 0; i < 8; i++) {
            for (long code : new long[] {32, 127, 128, 255, 10}) {
                long characters = 0x4141414141414141L & ~(255L << 8 * i) | code << 8 * i;
                due.same("code " + code + " at " + i, new CoinRows().put(characters), BAD_VALUE);
            }
        }
    }

    void p08BitsAboveEightBitsThatAre0() {
        for (int zero = 0; zero < 7; zero++) {
            long below = zero == 0 ? 0 : 0x41414141414141L >>> 8 * (7 - zero);
            due.same("all above are 0, " + zero, new CoinRows().put(below), zero == 0 ? BAD_VALUE : zero);
            for (int bit = 8 * (zero + 1); bit < 64; bit++) {
                due.same("bit " + bit + " above " + zero, new CoinRows().put(below | 1L << bit), BAD_VALUE);
            }
        }
    }

    void p08TooManyBeyond80() {
        for (int room = 0; room < 8; room++) {
            CoinRows x = new CoinRows();
            Due.putText(x, "!abcdab;".repeat(9) + "!abcdab;".substring(room));
            due.same("one too many for " + room, x.put(Due.packed("!abcdab;".substring(0, room + 1))), TOO_MANY);
            due.same("length", x.count(2), 80 - room);
            if (room > 0) {
                due.same("as many as there is room for", x.put(Due.packed("!abcdab;".substring(0, room))), 80);
            }
            due.same("none more", x.put('!'), TOO_MANY);
        }
        CoinRows x = new CoinRows();
        Due.putText(x, "!abcdab;".repeat(9));
        due.same("eight", x.put(Due.packed("!abcdab;")), 80);
    }

    void p08BadValueAheadOfTooMany() {
        CoinRows x = new CoinRows();
        Due.putText(x, "!abcdab;".repeat(10));
        due.same("no character", x.put(0), BAD_VALUE);
        due.same("a bad code", x.put(32), BAD_VALUE);
        due.same("a bit above 0", x.put(0x410041L << 8), BAD_VALUE);
        due.same("a good one", x.put('a'), TOO_MANY);
    }

    void p08IsNoChange() {
        CoinRows x = new CoinRows();
        x.add(0);
        x.put('@');
        due.same("changes", x.count(3), 1);
        due.same("undo takes the letter", x.undo() + x.count(0), 0);
        due.same("not the character", x.count(2), 1);
    }

    // ---- 9, 10, 11

    void p09ReturnsTheLengthThatItHad() {
        CoinRows x = new CoinRows();
        due.same("empty", x.wipe(), 0);
        x.put('@');
        due.same("one", x.wipe(), 1);
        due.same("empty again", x.wipe(), 0);
        Due.putText(x, "!abcdab;".repeat(10));
        due.same("80", x.wipe(), 80);
        due.same("length", x.count(2), 0);
        due.same("room for others", x.put(Due.packed("!abcdab")), 7);
        due.same("of which none of the former is left", x.fault(), NONE);
        due.same("changes", x.count(3), 0);
    }

    void p10NoneIfThereIsNoFault() {
        CoinRows x = new CoinRows();
        due.same("empty", x.fault(), 0);
        x.put('!');
        due.same("!", x.fault(), NONE);
        x.put(';');
        due.same("!;", x.fault(), 2);
        Due.putText(x, "4>40");
        due.same("!;4>40", x.fault(), NONE);
        x.put('0');
        due.same("!;4>400", x.fault(), 6);
        due.same("the pad stays", x.count(2), 7);
    }

    void p10OfAFullPad() {
        CoinRows x = new CoinRows();
        Due.putText(x, "@01;".repeat(19) + "!abc");
        due.same("80 characters without a fault", x.fault(), NONE);
        x.wipe();
        Due.putText(x, "@01;".repeat(19) + "!abx");
        due.same("the last one is the fault", x.fault(), 79);
        x.wipe();
        Due.putText(x, "@01;".repeat(20));
        due.same("80 characters that end too early", x.fault(), 80);
    }

    void p11GivesOneAfterTheOther() {
        CoinRows x = new CoinRows();
        Due.putText(x, "@13;@11;0>02;0>03;0=a0;0=a2;!abc;!d");
        due.same("parts", x.load(), 8);
        due.same("the last weight to begin", x.weight(BEGIN, 1, 0), 1);
        due.same("the last weight of the step", x.weight(STEP, 0, 0), 3);
        due.same("the last weight of the letter", x.weight(LETTER, 0, 0), 2);
        due.same("the length of the last row", x.count(0), 1);
        due.same("its letter", x.letter(0), 3);
    }

    void p11EmptiesThePad() {
        CoinRows x = Due.loaded("!abc;@02");
        due.same("length", x.count(2), 0);
        due.same("fault", x.fault(), 0);
        due.same("load again", x.load(), BAD_TEXT);
        due.same("wipe", x.wipe(), 0);
    }

    void p11IsOneChange() {
        CoinRows x = Due.loaded("@12;@22;@32;@42;@52;!abcdab");
        due.same("changes", x.count(3), 1);
        due.same("undo", x.undo(), 0);
        due.same("weights", x.count(1), 6);
        due.same("row", x.count(0), 0);
        due.same("the pad stays empty", x.count(2), 0);
    }

    void p11BadTextIfThePadHasAFault() {
        for (String text : new String[] {"", "@", "@01;", "@13;@04", "!abcdabc", "@13;!abx", "5>41", "4=a0"}) {
            CoinRows x = new CoinRows();
            Due.putText(x, text);
            due.same("load of " + text, x.load(), BAD_TEXT);
            due.same("the pad stays: " + text, x.count(2), text.length());
            due.same("no change by " + text, x.count(3), 0);
            due.same("no weight by " + text, x.weight(BEGIN, 1, 0), 0);
            due.same("no row by " + text, x.count(0), 0);
        }
    }

    void p11AnEmptyRowCanBeGiven() {
        CoinRows x = Due.loaded("!abcdab");
        Due.putText(x, "!");
        due.same("load", x.load(), 1);
        due.same("length", x.count(0), 0);
        due.same("undo", x.undo(), 1);
        due.same("length before", x.count(0), 6);
    }

    void p11WithoutARowTheRowStays() {
        CoinRows x = Due.loaded("!abcdab", "@12");
        due.same("length", x.count(0), 6);
        due.same("last letter", x.letter(5), 1);
    }

    // ---- 12, 13, 14

    void p12Totals() {
        due.same("of an empty row", new CoinRows().total(), 1);
        due.same("without ways", Due.loaded(Examples.DEAD).total(), 0);
        due.same("the greatest", Examples.heavy().total(), 36520347436056576L);
        due.same("of five letters", Examples.heavy(5).total(), 63403380965376L);
    }

    void p13NoSuchPlaceOrCoin() {
        CoinRows x = Due.loaded(Examples.SILENT);
        due.same("the last place", x.forward(1, 0), 45);
        due.same("behind it", x.forward(2, 0), NO_SUCH);
        due.same("the last loud coin", x.forward(0, 3), 0);
        due.same("a silent one", x.forward(0, 4), NO_SUCH);
        due.same("another silent one", x.forward(0, 5), NO_SUCH);
        due.same("of an empty row", new CoinRows().forward(0, 0), NO_SUCH);
        for (int far : FAR) {
            due.same("place " + far, x.forward(far, 0), NO_SUCH);
            due.same("coin " + far, x.forward(0, far), NO_SUCH);
        }
    }

    void p13WhetherTheyCanBeGoneOnWithOrNot() {
        CoinRows x = Due.loaded("@13;1=a2;2=b1;0>00;!ab");
        due.same("0 makes no step", x.forward(0, 0), 1);
        due.same("nor does 1", x.forward(0, 1), 6);
        due.same("so nothing ends there", x.forward(1, 0), 0);
        due.same("total", x.total(), 0);
    }

    void p13EndsWithTheLetterAtThePlace() {
        CoinRows x = Due.loaded("0>43;0>53;!a");
        due.same("no silent coins behind the letter", x.forward(0, 0), 1);
        x = Due.loaded("@43;4>03;!a");
        due.same("but ahead of it", x.forward(0, 0), 10);
    }

    void p14NoSuchPlaceOrCoin() {
        CoinRows x = Due.loaded(Examples.SILENT);
        due.same("the last place", x.backward(1, 0), 1);
        due.same("behind it", x.backward(2, 0), NO_SUCH);
        due.same("the last loud coin", x.backward(0, 3), 0);
        due.same("a silent one", x.backward(0, 4), NO_SUCH);
        due.same("another silent one", x.backward(1, 5), NO_SUCH);
        due.same("of an empty row", new CoinRows().backward(0, 0), NO_SUCH);
        for (int far : FAR) {
            due.same("place " + far, x.backward(far, 0), NO_SUCH);
            due.same("coin " + far, x.backward(0, far), NO_SUCH);
        }
    }

    void p14WhetherItCanBeComeToOrNot() {
        CoinRows x = Due.loaded("@00;3>02;2>42;4>03;0=a0;!ab");
        due.same("by a step", x.backward(0, 3), 2);
        due.same("by a silent coin", x.backward(0, 2), 6);
        due.same("that tells no such letter", x.backward(0, 0), 1);
        due.same("total", x.total(), 0);
    }

    void p14Is1AtTheLastPlace() {
        CoinRows x = Due.loaded("0=d0;0>00;!abcdad");
        for (int coin = 0; coin < 4; coin++) {
            due.same("coin " + coin, x.backward(5, coin), 1);
            due.same("ahead of it " + coin, x.backward(4, coin), 0);
            due.same("of all weights " + coin, Examples.heavy(3).backward(2, coin), 1);
            due.same("of one letter " + coin, Due.loaded("0>43;4>03;!b").backward(0, coin), 1);
        }
    }

    // ---- 15, 16, 17, 18

    void p15HowMany() {
        due.same("of an empty row", new CoinRows().ways(), 1);
        due.same("without ways", Due.loaded(Examples.DEAD).ways(), 0);
        due.same("one", Due.loaded("!abcdab").ways(), 1);
        due.same("of all weights and one letter", Examples.heavy(1).ways(), 16);
        due.same("the most", Examples.heavy().ways(), 16777216);
    }

    void p16NoSuchWay() {
        CoinRows x = Due.loaded(Examples.PAIR);
        due.same("the last one", x.way(3, 0), 1);
        due.same("behind it", x.way(4, 0), NO_SUCH);
        for (int way : FAR) {
            due.same("way " + way, x.way(way, 0), NO_SUCH);
        }
        due.same("without ways", Due.loaded(Examples.DEAD).way(0, -1), NO_SUCH);
        due.same("the second one of an empty row", new CoinRows().way(1, -1), NO_SUCH);
        due.same("the last one of the most", Examples.heavy().way(16777215, 0), 5);
        due.same("behind that", Examples.heavy().way(16777216, 0), NO_SUCH);
    }

    void p16WhatIsMinus1AndOn() {
        CoinRows x = Due.loaded(Examples.SILENT);
        due.same("coins", x.way(5, -1), 5);
        due.same("the first one", x.way(5, 0), 5);
        due.same("the last one", x.way(5, 4), 0);
        due.same("behind it", x.way(5, 5), NONE);
        due.same("far behind it", x.way(5, MAX), NONE);
        due.same("-2", x.way(5, -2), BAD_VALUE);
        due.same("far below", x.way(5, MIN), BAD_VALUE);
    }

    void p16NoSuchAheadOfBadValue() {
        due.same("both", Due.loaded(Examples.PAIR).way(4, -2), NO_SUCH);
        due.same("both below", Due.loaded(Examples.PAIR).way(-1, -2), NO_SUCH);
        due.same("without ways", Due.loaded(Examples.DEAD).way(0, -2), NO_SUCH);
    }

    void p16OfAnEmptyRow() {
        due.same("coins", new CoinRows().way(0, -1), 0);
        due.same("the first one", new CoinRows().way(0, 0), NONE);
        due.same("-2", new CoinRows().way(0, -2), BAD_VALUE);
    }

    void p17NoSuchWay() {
        CoinRows x = Due.loaded(Examples.PAIR);
        due.same("the first one", x.weighs(0), 2);
        due.same("the last one", x.weighs(3), 6);
        due.same("behind it", x.weighs(4), NO_SUCH);
        for (int way : FAR) {
            due.same("way " + way, x.weighs(way), NO_SUCH);
        }
        due.same("without ways", Due.loaded(Examples.DEAD).weighs(0), NO_SUCH);
        due.same("of an empty row", new CoinRows().weighs(0), 1);
        due.same("the second one of an empty row", new CoinRows().weighs(1), NO_SUCH);
    }

    void p17TheWeightiest() {
        CoinRows x = Due.loaded("@00;@43;4>53;5>03;0>00;0>43;0=a3;!aaaaaa");
        due.same("ways", x.ways(), 1);
        due.same("weighs", x.weighs(0), 282429536481L);
        due.same("likeliest", x.likeliest(-2), 0);
    }

    void p18OfSeveralTheFirstOne() {
        CoinRows x = Due.loaded("@11;@21;1=a1;2=a1;!a");
        due.same("three that weigh the same", x.likeliest(-2), 0);
        x = Due.loaded("@12;@22;1=a1;2=a1;!a");
        due.same("the later two", x.likeliest(-2), 1);
        due.same("the coin", x.likeliest(0), 1);
        x = Due.loaded("@00;@41;@51;4>01;4>51;5>01;!a");
        due.same("three of other lengths", x.likeliest(-2), 0);
        due.same("coins", x.likeliest(-1), 2);
        x = Due.loaded("@11;1>11;1=a1;1=b1;!ab");
        due.same("two that end otherwise", x.likeliest(-2), 0);
    }

    /** The greatest weights may lead to where no letter is told: that is no way. */
    void p18ADeadEndIsNoWay() {
        CoinRows x = Due.loaded("@03;0=a3;0>00;0>43;4>53;@11;1=a1;1>11;!aa");
        due.same("ways", x.ways(), 1);
        due.same("number", x.likeliest(-2), 0);
        due.same("its first coin", x.likeliest(0), 1);
        due.same("its share", x.shareBits(), 0x3f800000);
    }

    /** The likeliest way is the last one of two and as long as a way can be. */
    void p18TheLongestWay() {
        CoinRows x = Due.loaded("@00;@41;0>00;0>41;1>41;4>51;5>01;5>12;1=a1;!a");
        due.same("one letter", x.likeliest(-2), 1);
        for (int letters = 2; letters <= 6; letters++) {
            x.add(0);
            due.same("letters " + letters, x.likeliest(-2), (1 << letters) - 1);
            due.same("coins for " + letters, x.likeliest(-1), 3 * letters);
            due.same("its last coin", x.likeliest(3 * letters - 1), 1);
        }
    }

    /** Each loud coin by itself does what the others do. */
    void p18EachLoudCoin() {
        for (int coin = 0; coin < 4; coin++) {
            CoinRows x = Examples.bare();
            x.give(BEGIN, coin, 0, 1);
            x.give(STEP, coin, coin, 2);
            x.give(STEP, coin, 5, 1);
            x.give(STEP, 5, coin, 3);
            x.give(LETTER, coin, 0, 3);
            x.give(LETTER, coin, 1, 1);
            Due.putText(x, "!ab");
            x.load();
            due.same("total by " + coin, x.total(), 15);
            due.same("ways by " + coin, x.ways(), 2);
            due.same("the first one by " + coin, x.weighs(0), 6);
            due.same("forward of " + coin, x.forward(1, coin), 15);
            due.same("backward of " + coin, x.backward(0, coin), 5);
            due.same("likeliest by " + coin, x.likeliest(-2), 1);
            due.same("its first coin", x.likeliest(0), coin);
            due.same("its second coin", x.likeliest(1), 5);
            due.same("its last coin", x.likeliest(2), coin);
            due.same("odds of " + coin, x.odds(1, coin, 0), 1);
            due.same("likeliest at 1", x.likelyAt(1), coin);
            due.same("expected step of " + coin, x.expected(STEP, coin, 5, 1), 5);
            due.same("expected letter of " + coin, x.expected(LETTER, coin, 1, 0), 1);
            due.same("next by " + coin, x.next(1), 225);
            due.same("slip by " + coin, x.slip(2), 45);
            due.same("train by " + coin, x.train(), 3);
        }
    }

    void p18WhatIsMinus2AndOn() {
        CoinRows x = Due.loaded(Examples.SILENT);
        due.same("number", x.likeliest(-2), 5);
        due.same("coins", x.likeliest(-1), 5);
        due.same("the first one", x.likeliest(0), 5);
        due.same("the last one", x.likeliest(4), 0);
        due.same("behind it", x.likeliest(5), NONE);
        due.same("far behind it", x.likeliest(MAX), NONE);
        due.same("-3", x.likeliest(-3), BAD_VALUE);
        due.same("far below", x.likeliest(MIN), BAD_VALUE);
    }

    void p18NotPossibleIfThereIsNoWay() {
        CoinRows x = Due.loaded(Examples.DEAD);
        for (int what : new int[] {-2, -1, 0, 1, 5, MAX}) {
            due.same("what " + what, x.likeliest(what), NOT_POSSIBLE);
        }
    }

    void p18BadValueAheadOfNotPossible() {
        due.same("both", Due.loaded(Examples.DEAD).likeliest(-3), BAD_VALUE);
    }

    void p18OfAnEmptyRow() {
        due.same("number", Examples.bare().likeliest(-2), 0);
        due.same("coins", Examples.bare().likeliest(-1), 0);
        due.same("the first one", Examples.bare().likeliest(0), NONE);
    }

    // ---- 19, 20, 21

    void p19NoSuchPlaceOrCoin() {
        CoinRows x = Due.loaded(Examples.SILENT);
        due.same("the last place", x.odds(1, 0, 0), 1);
        due.same("behind it", x.odds(2, 0, 0), NO_SUCH);
        due.same("the last loud coin", x.odds(0, 3, 0), 0);
        due.same("a silent one", x.odds(0, 4, 0), NO_SUCH);
        due.same("of an empty row", new CoinRows().odds(0, 0, 0), NO_SUCH);
        for (int far : FAR) {
            due.same("place " + far, x.odds(far, 0, 0), NO_SUCH);
            due.same("coin " + far, x.odds(0, far, 0), NO_SUCH);
        }
    }

    void p19PartIs0Or1() {
        CoinRows x = Due.loaded(Examples.PAIR);
        due.same("0", x.odds(0, 0, 0), 2);
        due.same("1", x.odds(0, 0, 1), 23);
        due.same("2", x.odds(0, 0, 2), BAD_VALUE);
        for (int part : FAR) {
            due.same("part " + part, x.odds(0, 0, part), BAD_VALUE);
        }
    }

    void p19NotPossibleIfTheTotalIs0() {
        CoinRows x = Due.loaded(Examples.DEAD);
        due.same("upper", x.odds(0, 0, 0), NOT_POSSIBLE);
        due.same("lower", x.odds(1, 3, 1), NOT_POSSIBLE);
    }

    void p19OrderOfErrors() {
        CoinRows x = Due.loaded(Examples.DEAD);
        due.same("no place, a bad part", x.odds(2, 0, 2), NO_SUCH);
        due.same("no coin, a bad part", x.odds(0, 4, -1), NO_SUCH);
        due.same("a bad part, no total", x.odds(0, 0, 2), BAD_VALUE);
        due.same("no place, no total", x.odds(2, 0, 0), NO_SUCH);
    }

    void p20OfSeveralTheLowestOne() {
        due.same("all four", Examples.heavy().likelyAt(5), 0);
        CoinRows x = Due.loaded("@11;@22;@32;1=a1;2=a1;3=a1;!a");
        due.same("2 and 3", x.likelyAt(0), 2);
        x = Due.loaded("@00;@32;3=a1;!a");
        due.same("3 alone", x.likelyAt(0), 3);
    }

    void p20ASilentCoinIsNone() {
        CoinRows x = Examples.heavy();
        for (int place = 0; place < 6; place++) {
            due.same("place " + place, x.likelyAt(place), 0);
        }
    }

    void p20NoSuchPlace() {
        CoinRows x = Due.loaded("!ab");
        due.same("the last one", x.likelyAt(1), 0);
        due.same("behind it", x.likelyAt(2), NO_SUCH);
        due.same("of an empty row", new CoinRows().likelyAt(0), NO_SUCH);
        for (int place : FAR) {
            due.same("place " + place, x.likelyAt(place), NO_SUCH);
        }
    }

    void p20NotPossibleIfTheTotalIs0() {
        CoinRows x = Due.loaded(Examples.DEAD);
        due.same("a place", x.likelyAt(1), NOT_POSSIBLE);
        due.same("no place", x.likelyAt(2), NO_SUCH);
    }

    void p21KindAndPart() {
        CoinRows x = Due.loaded(Examples.PAIR);
        for (int kind = BEGIN; kind <= LETTER; kind++) {
            due.same("part 0", x.expected(kind, 1, 0, 0) > 0 ? 1 : 0, 1);
            due.same("part 1", x.expected(kind, 1, 0, 1), 23);
            due.same("part 2", x.expected(kind, 1, 0, 2), BAD_VALUE);
        }
        due.same("kind 3", x.expected(3, 1, 0, 0), BAD_VALUE);
        for (int far : FAR) {
            due.same("kind " + far, x.expected(far, 1, 0, 0), BAD_VALUE);
            due.same("part " + far, x.expected(STEP, 1, 0, far), BAD_VALUE);
        }
    }

    void p21CoinAndToAsForGive() {
        CoinRows x = Due.loaded(Examples.SILENT);
        due.same("begin of 5", x.expected(BEGIN, 5, 0, 1), 3);
        due.same("begin of 6", x.expected(BEGIN, 6, 0, 0), NO_SUCH);
        due.same("begin to 1", x.expected(BEGIN, 0, 1, 0), NO_SUCH);
        due.same("step 4 to 5", x.expected(STEP, 4, 5, 1), 5);
        due.same("step 5 to 4", x.expected(STEP, 5, 4, 0), 0);
        due.same("step 0 to 6", x.expected(STEP, 0, 6, 0), NO_SUCH);
        due.same("step 6 to 0", x.expected(STEP, 6, 0, 0), NO_SUCH);
        due.same("letter d of 3", x.expected(LETTER, 3, 3, 0), 0);
        due.same("letter 4", x.expected(LETTER, 3, 4, 0), NO_SUCH);
        due.same("letter of 4", x.expected(LETTER, 4, 0, 0), NO_SUCH);
        for (int far : FAR) {
            for (int kind = BEGIN; kind <= LETTER; kind++) {
                due.same("coin " + far, x.expected(kind, far, 0, 0), NO_SUCH);
                due.same("to " + far, x.expected(kind, 0, far, 0), NO_SUCH);
            }
        }
    }

    void p21OrderOfErrors() {
        CoinRows x = Due.loaded(Examples.DEAD);
        due.same("kind and coin", x.expected(3, 6, 0, 0), BAD_VALUE);
        due.same("part and coin", x.expected(STEP, 6, 0, 2), BAD_VALUE);
        due.same("part and total", x.expected(STEP, 0, 0, 2), BAD_VALUE);
        due.same("coin and total", x.expected(STEP, 6, 0, 0), NO_SUCH);
        due.same("to and total", x.expected(LETTER, 0, 4, 0), NO_SUCH);
        due.same("total", x.expected(STEP, 0, 0, 0), NOT_POSSIBLE);
        due.same("total, lower", x.expected(LETTER, 3, 3, 1), NOT_POSSIBLE);
    }

    // ---- 22, 23, 24, 25

    void p22NotPossibleIfTheTotalIs0() {
        due.same("none", Due.loaded(Examples.DEAD).shareBits(), NOT_POSSIBLE);
    }

    void p22TheWholeIs1() {
        due.same("one way", Due.loaded("!abcdab").shareBits(), 0x3f800000);
        due.same("an empty row", Examples.bare().shareBits(), 0x3f800000);
    }

    void p22PartsOfTwo() {
        due.same("1 by 2", Due.loaded("@11;1=a1;!a").shareBits(), 0x3f000000);
        due.same("1 by 4", Due.loaded("@11;@21;@31;1=a1;2=a1;3=a1;!a").shareBits(), 0x3e800000);
        due.same("1 by 3", Due.loaded("@11;@21;1=a1;2=a1;!a").shareBits(), 0x3eaaaaab);
    }

    /** The same numbers as floats would share otherwise: 30233088 by 30233089 would be 1. */
    void p22IsSharedAsDoubles() {
        CoinRows x = Due.loaded("1>43;1=a1;5>12;@31;3>31;@51;4>53;1=b2;!baaabb");
        due.same("total", x.total(), 30233089);
        due.same("weighs most", x.weighs(x.likeliest(-2)), 30233088);
        due.same("just below 1", x.shareBits(), 0x3f7fffff);
        x = Due.loaded("1=a1;5>02;@53;0=b3;0>53;!babbbb");
        due.same("11337408 by 28588707", x.shareBits(), 1053494055);
    }

    /** A share that is below 1 as a double may be 1 as a float. */
    void p22BecomesAFloat() {
        CoinRows x = Due.loaded("@00;@43;4>53;5>03;0>00;0>43;0=a3;@11;1=a1;1>11;!aaaaaa");
        due.same("total", x.total(), 282429536482L);
        due.same("share", x.shareBits(), 0x3f800000);
    }

    void p22OfTheGreatestTotal() {
        float share = (float) (282429536481.0 / 36520347436056576.0);
        due.same("share", Examples.heavy().shareBits(), Float.floatToIntBits(share));
    }

    void p23WhatIs0Or1() {
        CoinRows x = Due.loaded("0=c3");
        due.same("0", x.next(0), 2);
        due.same("1", x.next(1), 3);
        due.same("2", x.next(2), BAD_VALUE);
        for (int what : FAR) {
            due.same("what " + what, x.next(what), BAD_VALUE);
        }
    }

    void p23OfSeveralTheLowestOne() {
        due.same("all four", new CoinRows().next(0), 0);
        due.same("b and d", Due.loaded("0=b2;0=d2;!c").next(0), 1);
        due.same("d alone", Due.loaded("0=d2;!c").next(0), 3);
    }

    void p23NotPossibleIfTheRowHasSix() {
        CoinRows x = Due.loaded("!abcda");
        due.same("five", x.next(1), 1);
        x.add(0);
        due.same("six", x.next(0), NOT_POSSIBLE);
        due.same("six, the total", x.next(1), NOT_POSSIBLE);
        due.same("six, a bad what", x.next(2), BAD_VALUE);
        due.same("six without ways", Due.loaded("0=a0", "!aaaaaa").next(0), NOT_POSSIBLE);
    }

    void p23NoneIfTheTotalWouldBe0WithEachLetter() {
        due.same("no way so far", Due.loaded(Examples.DEAD).next(0), NONE);
        due.same("the total of it", Due.loaded(Examples.DEAD).next(1), NONE);
        due.same("no step", Due.loaded("0>00;!a").next(0), NONE);
        due.same("no coin to begin", Due.loaded("@00").next(0), NONE);
        due.same("no letter", Examples.bare().next(1), NONE);
        due.same("one letter of one coin", Due.loaded("0>00;0>31;3=d1;!a").next(0), 3);
    }

    void p23TheGreatestTotal() {
        due.same("behind five", Examples.heavy(5).next(1), 36520347436056576L);
        due.same("behind none", Examples.heavy(0).next(1), 576);
    }

    void p23TheRowStays() {
        CoinRows x = Due.loaded("!ab");
        x.next(1);
        due.same("length", x.count(0), 2);
        due.same("changes", x.count(3), 1);
        due.same("what is added then", x.add(3), 3);
    }

    void p24WhatIs0To2() {
        CoinRows x = Due.loaded("0=c3;!ac");
        due.same("0", x.slip(0), 0);
        due.same("1", x.slip(1), 2);
        due.same("2", x.slip(2), 9);
        due.same("3", x.slip(3), BAD_VALUE);
        for (int what : FAR) {
            due.same("what " + what, x.slip(what), BAD_VALUE);
        }
    }

    void p24MustBeGreaterThanItIs() {
        for (int what = 0; what < 3; what++) {
            due.same("all letters the same", Due.loaded("!abcd").slip(what), NONE);
            due.same("the best row", Due.loaded("0=b2;!bb").slip(what), NONE);
            due.same("an empty row", new CoinRows().slip(what), NONE);
            due.same("0 with any other letter, too", Due.loaded("0=a0;!aa").slip(what), NONE);
        }
        due.same("greater by one", Due.loaded("0=b2;!a").slip(2), 2);
    }

    void p24OfSeveralTheFirstPlaceThenTheLowestLetter() {
        CoinRows x = Due.loaded("0=c2;0=d2;!aaa");
        due.same("place", x.slip(0), 0);
        due.same("letter", x.slip(1), 2);
        // d at the place 0 and a at the place 1 make it as great
        x = Due.loaded("@00;0>00;@11;1>21;1=d2;2=a2;1=b1;2=b1;!bb");
        due.same("the first place, though its letter is higher", x.slip(0), 0);
        due.same("its letter", x.slip(1), 3);
        due.same("the total", x.slip(2), 2);
        x = Due.loaded("@00;0>00;@11;1>21;1=d2;2=a3;1=b1;2=b1;!bb");
        due.same("a later place, if greater", x.slip(0), 1);
        due.same("its letter then", x.slip(1), 0);
    }

    void p24FromATotalOf0() {
        CoinRows x = Due.loaded("0=a0;!bca");
        due.same("place", x.slip(0), 2);
        due.same("letter", x.slip(1), 1);
        due.same("total", x.slip(2), 1);
    }

    void p24TheLastOfSixPlaces() {
        CoinRows x = Due.loaded("0=b3;!bbbbba");
        due.same("place", x.slip(0), 5);
        due.same("letter", x.slip(1), 1);
        due.same("total", x.slip(2), 729);
        due.same("the row stays", x.letter(5), 0);
    }

    void p25WhatIs0To3() {
        CoinRows x = Due.loaded("@12;!abc");
        x.put('@');
        x.put('0');
        due.same("length", x.count(0), 3);
        due.same("weights", x.count(1), 7);
        due.same("pad", x.count(2), 2);
        due.same("changes", x.count(3), 1);
        due.same("4", x.count(4), BAD_VALUE);
        for (int what : FAR) {
            due.same("what " + what, x.count(what), BAD_VALUE);
        }
    }

    void p25LeastAndMost() {
        CoinRows x = Examples.heavy();
        Due.putText(x, "!abcdab;".repeat(10));
        due.same("longest row", x.count(0), 6);
        due.same("all weights but three", x.count(1), 55);
        due.same("fullest pad", x.count(2), 80);
        due.same("most changes", x.count(3), 6);
        due.same("no weights", Examples.bare().count(1), 0);
        due.same("no letters", Examples.bare().count(0), 0);
    }

    // ---- 26, 27, 28

    void p26NotPossibleIfThereIsNone() {
        CoinRows x = new CoinRows();
        due.same("new", x.undo(), NOT_POSSIBLE);
        x.add(1);
        due.same("one", x.undo(), 0);
        due.same("none is left", x.undo(), NOT_POSSIBLE);
        due.same("changes", x.count(3), 0);
    }

    void p26AtMostSixAreKept() {
        CoinRows x = new CoinRows();
        for (int i = 0; i < 6; i++) {
            due.same("changes", x.count(3), i);
            x.give(BEGIN, 0, 0, i % 2 == 0 ? 2 : 3);
        }
        due.same("six", x.count(3), 6);
        for (int left = 5; left >= 0; left--) {
            due.same("undo", x.undo(), left);
            due.same("weight", x.weight(BEGIN, 0, 0), left == 0 ? 1 : left % 2 == 0 ? 3 : 2);
        }
        due.same("none is left", x.undo(), NOT_POSSIBLE);
    }

    void p26TheOldestOneIsDropped() {
        for (int changes = 7; changes <= 20; changes++) {
            CoinRows x = new CoinRows();
            for (int i = 1; i <= changes; i++) {
                x.give(STEP, 1, 1, i % 4);
                due.same("changes", x.count(3), Math.min(6, i));
            }
            for (int left = 5; left >= 0; left--) {
                due.same("undo", x.undo(), left);
                due.same("weight", x.weight(STEP, 1, 1), (changes - 6 + left) % 4);
            }
            due.same("none is left", x.undo(), NOT_POSSIBLE);
            due.same("the state before the oldest one that was kept", x.weight(STEP, 1, 1), (changes - 6) % 4);
        }
    }

    void p26AlsoIfNothingIsDifferent() {
        CoinRows x = new CoinRows();
        x.give(BEGIN, 0, 0, 1);
        due.same("give", x.count(3), 1);
        Due.putText(x, "!");
        x.load();
        due.same("load", x.count(3), 2);
        x.save(0);
        x.restore(0);
        due.same("restore", x.count(3), 3);
        x.add(0);
        x.train();
        x.train();
        due.same("train", x.count(3), 6);
        x.undo();
        due.same("undo train without a difference", x.weight(BEGIN, 0, 0), 3);
        x.undo();
        due.same("undo train", x.weight(BEGIN, 0, 0), 1);
        due.same("length", x.count(0), 1);
        x.undo();
        due.same("undo add", x.count(0), 0);
    }

    /** What is no change, and what returns an error, records nothing. */
    void p26NothingElseIsRecorded() {
        CoinRows x = new CoinRows();
        x.put('@');
        x.wipe();
        x.save(0);
        x.undo();
        x.load();
        x.cut();
        x.add(4);
        x.give(STEP, 5, 5, 1);
        x.restore(1);
        x.train();
        due.same("changes", x.count(3), 0);
        x.restore(0);
        due.same("one change", x.count(3), 1);
        x.undo();
        due.same("undo records none", x.count(3), 0);
    }

    void p26EachKindOfChangeIsUndone() {
        CoinRows x = Due.loaded("!ab");
        x.save(0);
        x.give(LETTER, 0, 0, 3);
        x.add(2);
        x.cut();
        x.train();
        x.restore(0);
        due.same("undo restore", x.undo(), 5);
        due.same("weights that were trained", x.weight(BEGIN, 0, 0), 3);
        due.same("undo train", x.undo(), 4);
        due.same("weights before", x.weight(BEGIN, 0, 0), 1);
        due.same("undo cut", x.undo(), 3);
        due.same("the letter", x.letter(2), 2);
        due.same("undo add", x.undo(), 2);
        due.same("length", x.count(0), 2);
        due.same("undo give", x.undo(), 1);
        due.same("weight", x.weight(LETTER, 0, 0), 1);
        due.same("undo load", x.undo(), 0);
        due.same("no row", x.count(0), 0);
    }

    /** "The weights and the row are as they were before it": each weight, and each place of the row. */
    void p26AndP28EachWeightAndLetterComesBack() {
        CoinRows x = Examples.heavy();
        Due.putText(x, "!dcbadc");
        x.load();
        x.save(1);
        String want = weightsAndRow(x);
        x.give(BEGIN, 0, 0, 3);
        Due.putText(x, "!abcdab");
        x.load();
        x.train();
        due.same("restore", x.restore(1), 6);
        due.same("what was saved", weightsAndRow(x), want);
        x = Examples.heavy();
        Due.putText(x, "!dcbadc");
        x.load();
        Due.putText(x, "!aaaaaa;3=d0;3=c0;0=a0;@00;@50;0>00;5>30");
        x.load();
        due.same("undo", x.undo(), 5);
        due.same("what was before", weightsAndRow(x), want);
    }

    private static String weightsAndRow(CoinRows x) {
        StringBuilder text = new StringBuilder();
        for (int coin = 0; coin < 6; coin++) {
            text.append(x.weight(BEGIN, coin, 0)).append(' ');
            for (int to = 0; to < 6; to++) {
                text.append(x.weight(STEP, coin, to)).append(coin < 4 && to < 4 ? x.weight(LETTER, coin, to) : 0);
            }
        }
        for (int place = 0; place < x.count(0); place++) {
            text.append(x.letter(place));
        }
        return text.toString();
    }

    void p26AChangeBehindAnUndo() {
        CoinRows x = new CoinRows();
        x.add(0);
        x.add(1);
        x.undo();
        x.add(2);
        due.same("changes", x.count(3), 2);
        due.same("undo", x.undo(), 1);
        due.same("length", x.count(0), 1);
        due.same("letter", x.letter(0), 0);
        due.same("undo again", x.undo(), 0);
        due.same("length then", x.count(0), 0);
    }

    void p26LeavesThePadAndWhatWasSaved() {
        CoinRows x = new CoinRows();
        x.add(3);
        x.save(0);
        x.put('@');
        x.undo();
        due.same("pad", x.count(2), 1);
        due.same("slot", x.restore(0), 1);
        due.same("its letter", x.letter(0), 3);
    }

    void p27SlotIs0Or1() {
        CoinRows x = Due.loaded("!abc");
        due.same("0", x.save(0), 3);
        due.same("1", x.save(1), 3);
        due.same("2", x.save(2), BAD_VALUE);
        for (int slot : FAR) {
            due.same("slot " + slot, x.save(slot), BAD_VALUE);
        }
    }

    void p27ReturnsTheLengthOfTheRow() {
        CoinRows x = new CoinRows();
        for (int length = 0; length <= 6; length++) {
            due.same("save", x.save(length % 2), length);
            x.add(0);
        }
        due.same("restore of the last", x.restore(0), 6);
        due.same("restore of the one before", x.restore(1), 5);
    }

    void p27OverwritesWhatWasSavedThere() {
        CoinRows x = Due.loaded("!abc");
        x.save(0);
        Due.putText(x, "!;@13");
        x.load();
        due.same("save of an empty row", x.save(0), 0);
        x.add(1);
        x.give(BEGIN, 1, 0, 0);
        due.same("restore", x.restore(0), 0);
        due.same("weight", x.weight(BEGIN, 1, 0), 3);
        due.same("the other slot", x.restore(1), NOT_POSSIBLE);
    }

    void p27SavesWeightsAndRowAlone() {
        CoinRows x = Due.loaded("!abc");
        x.put('@');
        x.save(0);
        x.wipe();
        x.put('!');
        x.put('a');
        x.restore(0);
        due.same("the pad stays", x.count(2), 2);
        due.same("the history goes on", x.count(3), 2);
    }

    void p28SlotIs0Or1() {
        CoinRows x = new CoinRows();
        x.save(0);
        x.save(1);
        due.same("0", x.restore(0), 0);
        due.same("1", x.restore(1), 0);
        due.same("2", x.restore(2), BAD_VALUE);
        for (int slot : FAR) {
            due.same("slot " + slot, x.restore(slot), BAD_VALUE);
        }
        due.same("changes", x.count(3), 2);
    }

    void p28NotPossibleIfNothingWasSaved() {
        CoinRows x = Due.loaded("!abc");
        due.same("0", x.restore(0), NOT_POSSIBLE);
        due.same("1", x.restore(1), NOT_POSSIBLE);
        x.save(0);
        due.same("1 still", x.restore(1), NOT_POSSIBLE);
        due.same("0 then", x.restore(0), 3);
        due.same("changes", x.count(3), 2);
    }

    void p28BadValueAheadOfNotPossible() {
        due.same("nothing was saved at all", new CoinRows().restore(2), BAD_VALUE);
        due.same("the same below", new CoinRows().restore(-1), BAD_VALUE);
    }

    void p28TheSlotKeepsIt() {
        CoinRows x = Due.loaded("@12;!abc");
        x.save(1);
        for (int i = 0; i < 3; i++) {
            x.cut();
            x.add(3);
            x.add(3);
            x.give(BEGIN, 1, 0, i);
            due.same("restore", x.restore(1), 3);
            due.same("weight", x.weight(BEGIN, 1, 0), 2);
            due.same("last letter", x.letter(2), 2);
        }
        x.cut();
        due.same("what is changed then is not changed in the slot", x.restore(1), 3);
        x.undo();
        due.same("undo is not undone in the slot", x.restore(1), 3);
    }

    void p28IsAChange() {
        CoinRows x = new CoinRows();
        x.save(0);
        x.add(2);
        x.give(STEP, 0, 0, 3);
        due.same("restore", x.restore(0), 0);
        due.same("changes", x.count(3), 3);
        due.same("undo", x.undo(), 2);
        due.same("length", x.count(0), 1);
        due.same("letter", x.letter(0), 2);
        due.same("weight", x.weight(STEP, 0, 0), 3);
    }
}
