/** Each promise by itself: ordinary inputs, the edges that the document names, and wrong inputs. */
public final class PromisesTest {
    private static final int NO_SUCH = CoinRows.NO_SUCH;
    private static final int BAD_VALUE = CoinRows.BAD_VALUE;
    private static final int BAD_TEXT = CoinRows.BAD_TEXT;
    private static final int TOO_MANY = CoinRows.TOO_MANY;
    private static final int NOT_POSSIBLE = CoinRows.NOT_POSSIBLE;
    private static final int NONE = CoinRows.NONE;
    private static final int BEGIN = CoinRows.BEGIN;
    private static final int STEP = CoinRows.STEP;
    private static final int LETTER = CoinRows.LETTER;
    private static final int MIN = Integer.MIN_VALUE;
    private static final int MAX = Integer.MAX_VALUE;

    private final Due due = new Due();

    public static void main(String[] args) {
        PromisesTest test = new PromisesTest();
        test.aNewObject();
        test.give();
        test.weight();
        test.add();
        test.cut();
        test.letter();
        test.train();
        test.trainBySilentCoins();
        test.put();
        test.wipe();
        test.fault();
        test.faultOfParts();
        test.load();
        test.total();
        test.forward();
        test.backward();
        test.ways();
        test.way();
        test.weighs();
        test.likeliest();
        test.odds();
        test.likelyAt();
        test.expected();
        test.shareBits();
        test.next();
        test.slip();
        test.count();
        test.undo();
        test.undoOfEachChange();
        test.save();
        test.restore();
        test.greatestNumbers();
        test.due.end("PromisesTest");
    }

    private void aNewObject() {
        CoinRows x = new CoinRows();
        due.same("1: new length", x.count(0), 0);
        due.same("1: new weights", x.count(1), 6);
        due.same("1: new pad", x.count(2), 0);
        due.same("1: new history", x.count(3), 0);
        for (int coin = 0; coin < 6; coin++) {
            due.same("1: new begin of " + coin, x.weight(BEGIN, coin, 0), coin == 0 ? 1 : 0);
            for (int to = 0; to < 6; to++) {
                due.same("1: new step " + coin + " to " + to, x.weight(STEP, coin, to), coin + to == 0 ? 1 : 0);
                boolean told = coin < 4 && to < 4;
                due.same("1: new letter", x.weight(LETTER, coin, to), !told ? NO_SUCH : coin == 0 ? 1 : 0);
            }
        }
        due.same("1: new undo", x.undo(), NOT_POSSIBLE);
        due.same("1: new restore", x.restore(0), NOT_POSSIBLE);
        CoinRows other = new CoinRows();
        x.add(2);
        due.same("1: another object", other.count(0), 0);
    }

    private void give() {
        CoinRows x = new CoinRows();
        due.same("2: give begin", x.give(BEGIN, 0, 0, 3), 1);
        due.same("2: give begin again", x.give(BEGIN, 0, 0, 2), 3);
        due.same("2: give begin silent", x.give(BEGIN, 5, 0, 3), 0);
        due.same("2: give step", x.give(STEP, 4, 5, 3), 0);
        due.same("2: give step 5 to 3", x.give(STEP, 5, 3, 2), 0);
        due.same("2: give letter", x.give(LETTER, 3, 3, 1), 0);
        due.same("2: given begin", x.weight(BEGIN, 0, 0), 2);
        due.same("2: given begin silent", x.weight(BEGIN, 5, 0), 3);
        due.same("2: given step", x.weight(STEP, 4, 5), 3);
        due.same("2: given step 5 to 3", x.weight(STEP, 5, 3), 2);
        due.same("2: given letter", x.weight(LETTER, 3, 3), 1);
        int[][] barred = {{4, 4}, {5, 5}, {5, 4}};
        for (int[] step : barred) {
            due.same("2: barred step", x.give(STEP, step[0], step[1], 1), NOT_POSSIBLE);
            due.same("2: barred step 3", x.give(STEP, step[0], step[1], 3), NOT_POSSIBLE);
            due.same("2: barred step 0", x.give(STEP, step[0], step[1], 0), 0);
            due.same("2: barred step with a bad weight", x.give(STEP, step[0], step[1], 4), BAD_VALUE);
        }
        x = new CoinRows();
        for (int kind : new int[] {-1, 3, MIN, MAX}) {
            due.same("2: kind " + kind, x.give(kind, 0, 0, 0), BAD_VALUE);
            due.same("2: kind ahead of coin " + kind, x.give(kind, 9, 9, 0), BAD_VALUE);
        }
        for (int weight : new int[] {-1, 4, MIN, MAX}) {
            due.same("2: weight " + weight, x.give(STEP, 0, 0, weight), BAD_VALUE);
            due.same("2: weight ahead of coin " + weight, x.give(LETTER, 4, 0, weight), BAD_VALUE);
        }
        int[][] none = {{BEGIN, 0, 1}, {BEGIN, 0, -1}, {BEGIN, 6, 0}, {BEGIN, -1, 0}, {STEP, 6, 0}, {STEP, -1, 0}, {STEP, 0, 6},
            {STEP, 0, -1}, {LETTER, 4, 0}, {LETTER, -1, 0}, {LETTER, 0, 4}, {LETTER, 0, -1}, {STEP, MAX, 0}, {STEP, 0, MIN}, {LETTER, MIN, MAX}};
        for (int[] call : none) {
            due.same("2: no such " + call[0] + " " + call[1] + " " + call[2], x.give(call[0], call[1], call[2], 1), NO_SUCH);
        }
        due.same("2: errors change nothing", x.count(1), 6);
        due.same("2: errors are not recorded", x.count(3), 0);
    }

    private void weight() {
        CoinRows x = Due.loaded(Examples.PAIR);
        due.same("3: begin", x.weight(BEGIN, 1, 0), 2);
        due.same("3: step", x.weight(STEP, 0, 1), 2);
        due.same("3: step the other way", x.weight(STEP, 1, 0), 3);
        due.same("3: letter", x.weight(LETTER, 1, 0), 3);
        due.same("3: letter b", x.weight(LETTER, 0, 1), 2);
        due.same("3: barred", x.weight(STEP, 5, 4), 0);
        for (int kind : new int[] {-1, 3, MIN, MAX}) {
            due.same("3: kind " + kind, x.weight(kind, 0, 0), BAD_VALUE);
            due.same("3: kind ahead of coin " + kind, x.weight(kind, -1, 9), BAD_VALUE);
        }
        due.same("3: begin of 6", x.weight(BEGIN, 6, 0), NO_SUCH);
        due.same("3: begin of 5", x.weight(BEGIN, 5, 0), 0);
        due.same("3: begin to 1", x.weight(BEGIN, 0, 1), NO_SUCH);
        due.same("3: step of 6", x.weight(STEP, 6, 0), NO_SUCH);
        due.same("3: step to -1", x.weight(STEP, 0, -1), NO_SUCH);
        due.same("3: step to 6", x.weight(STEP, 0, 6), NO_SUCH);
        due.same("3: letter of 4", x.weight(LETTER, 4, 0), NO_SUCH);
        due.same("3: letter 4", x.weight(LETTER, 0, 4), NO_SUCH);
        due.same("3: letter -1", x.weight(LETTER, 0, -1), NO_SUCH);
        due.same("3: extreme", x.weight(STEP, MIN, MAX), NO_SUCH);
    }

    private void add() {
        CoinRows x = new CoinRows();
        for (int letter : new int[] {-1, 4, MIN, MAX}) {
            due.same("4: add " + letter, x.add(letter), BAD_VALUE);
        }
        due.same("4: not recorded", x.count(3), 0);
        for (int i = 0; i < 6; i++) {
            due.same("4: add the letter " + i, x.add(i % 4), i + 1);
        }
        due.same("4: a seventh", x.add(0), TOO_MANY);
        due.same("4: a bad seventh", x.add(4), BAD_VALUE);
        for (int i = 0; i < 6; i++) {
            due.same("4: letter " + i, x.letter(i), i % 4);
        }
        due.same("4: length", x.count(0), 6);
        x = new CoinRows();
        x.add(3);
        due.same("4: recorded", x.count(3), 1);
    }

    private void cut() {
        CoinRows x = new CoinRows();
        due.same("5: cut of none", x.cut(), NOT_POSSIBLE);
        due.same("5: not recorded", x.count(3), 0);
        x.add(2);
        x.add(0);
        x.add(3);
        due.same("5: cut d", x.cut(), 3);
        due.same("5: cut a", x.cut(), 0);
        due.same("5: length", x.count(0), 1);
        due.same("5: what stays", x.letter(0), 2);
        due.same("5: recorded", x.count(3), 5);
        due.same("5: cut c", x.cut(), 2);
        due.same("5: cut again", x.cut(), NOT_POSSIBLE);
        due.same("5: add then", x.add(1), 1);
    }

    private void letter() {
        CoinRows x = new CoinRows();
        due.same("6: letter of none", x.letter(0), NO_SUCH);
        x.add(1);
        x.add(3);
        due.same("6: letter 0", x.letter(0), 1);
        due.same("6: letter 1", x.letter(1), 3);
        due.same("6: letter 2", x.letter(2), NO_SUCH);
        due.same("6: letter -1", x.letter(-1), NO_SUCH);
        due.same("6: letter MIN", x.letter(MIN), NO_SUCH);
        due.same("6: letter MAX", x.letter(MAX), NO_SUCH);
        x.cut();
        due.same("6: letter that was cut", x.letter(1), NO_SUCH);
    }

    private void train() {
        CoinRows x = Due.loaded(Examples.PAIR);
        due.same("7: train", x.train(), 8);
        due.same("7: recorded", x.count(3), 3);
        int[][] then = {{BEGIN, 0, 0, 0}, {BEGIN, 1, 0, 3}, {STEP, 0, 0, 3}, {STEP, 0, 1, 3}, {STEP, 1, 0, 3}, {STEP, 1, 1, 1},
            {LETTER, 0, 0, 0}, {LETTER, 0, 1, 3}, {LETTER, 0, 2, 0}, {LETTER, 0, 3, 0}, {LETTER, 1, 0, 3}, {LETTER, 1, 1, 1}};
        for (int[] weight : then) {
            String name = "7: trained " + weight[0] + " " + weight[1] + " " + weight[2];
            due.same(name, x.weight(weight[0], weight[1], weight[2]), weight[3]);
        }
        due.same("7: row stays", x.count(0), 2);
        due.same("7: train of none", new CoinRows().train(), NOT_POSSIBLE);
        x = Due.loaded(Examples.DEAD);
        due.same("7: train without ways", x.train(), NOT_POSSIBLE);
        due.same("7: not recorded", x.count(3), 1);
        // nothing is told of the coin 2, so its groups stay; the coin 0 makes no step for one letter
        x = Due.loaded("2>12;2=c3;0=a2;0>32;!a");
        due.same("7: train by one letter", x.train(), 5);
        due.same("7: stays step", x.weight(STEP, 2, 1), 2);
        due.same("7: stays letter", x.weight(LETTER, 2, 2), 3);
        due.same("7: stays step of 0", x.weight(STEP, 0, 3), 2);
        due.same("7: begin", x.weight(BEGIN, 0, 0), 3);
        due.same("7: told", x.weight(LETTER, 0, 0), 3);
        due.same("7: never told", x.weight(LETTER, 0, 1), 0);
        due.same("7: train again", x.train(), 0);
        due.same("7: recorded also then", x.count(3), 3);
    }

    private void trainBySilentCoins() {
        CoinRows x = Examples.heavy();
        due.same("7: train all", x.train(), 5 + 4 * 5 + 4 + 4 * 2);
        due.same("7: begin loud", x.weight(BEGIN, 2, 0), 0);
        due.same("7: begin 4", x.weight(BEGIN, 4, 0), 3);
        due.same("7: begin 5", x.weight(BEGIN, 5, 0), 1);
        due.same("7: 4 to 5", x.weight(STEP, 4, 5), 3);
        due.same("7: 4 to loud", x.weight(STEP, 4, 1), 0);
        due.same("7: 5 to loud", x.weight(STEP, 5, 3), 3);
        due.same("7: 5 to 4", x.weight(STEP, 5, 4), 0);
        due.same("7: a, told twice", x.weight(LETTER, 0, 0), 3);
        due.same("7: c, told once", x.weight(LETTER, 0, 2), 2);
        due.same("7: b by the coin 1", x.weight(LETTER, 1, 1), 3);
        due.same("7: d by the coin 3", x.weight(LETTER, 3, 3), 2);
        due.same("7: 3 to 5", x.weight(STEP, 3, 5), 1);
    }

    private void put() {
        CoinRows x = new CoinRows();
        due.same("8: one", x.put('@'), 1);
        due.same("8: two", x.put(Due.packed("01")), 3);
        due.same("8: eight", x.put(Due.packed(";1>23;2=")), 11);
        due.same("8: the order", x.fault(), 11);
        due.same("8: loaded", x.put(Due.packed("c3")) + x.load(), 16);
        due.same("8: begin", x.weight(BEGIN, 0, 0), 1);
        due.same("8: step", x.weight(STEP, 1, 2), 3);
        due.same("8: letter", x.weight(LETTER, 2, 2), 3);
        long[] bad = {0, -1, 32, 127, 10, 255, 128, 0x4100, 0x410041, 0x410000L << 24 | 65, 0x2041, 0x417f, 0x2041414141414141L,
            0x7f41414141414141L, 0x8041414141414141L, 0x4100414141414141L, 0x4141414141414100L, Long.MIN_VALUE, Long.MAX_VALUE,
            0x8000000000000041L, 0x0100000000000041L};
        for (long characters : bad) {
            due.same("8: bad " + characters, x.put(characters), BAD_VALUE);
        }
        due.same("8: nothing is put", x.count(2), 0);
        due.same("8: 33", x.put(33), 1);
        due.same("8: 126", x.put(126), 2);
        due.same("8: highest", x.put(0x7e7e7e7e7e7e7e7eL), 10);
        x.wipe();
        for (int i = 1; i < 10; i++) {
            due.same("8: to " + 8 * i, x.put(Due.packed("!abcdab;")), 8 * i);
        }
        due.same("8: to 79", x.put(Due.packed("!abcdab")), 79);
        due.same("8: to 81", x.put(Due.packed("ab")), TOO_MANY);
        due.same("8: a bad one to 81", x.put(Due.packed("a b")), BAD_VALUE);
        due.same("8: still 79", x.count(2), 79);
        due.same("8: no fault", x.fault(), NONE);
        due.same("8: to 80", x.put('b'), 80);
        due.same("8: to 81 by one", x.put('b'), TOO_MANY);
        due.same("8: to 88", x.put(Due.packed("!abcdab;")), TOO_MANY);
        due.same("8: the fault at the end", x.fault(), 79);
        due.same("8: put is no change", x.count(3), 1);
    }

    private void wipe() {
        CoinRows x = new CoinRows();
        due.same("9: wipe of none", x.wipe(), 0);
        Due.putText(x, "!abcdab;@01");
        due.same("9: wipe", x.wipe(), 11);
        due.same("9: wipe again", x.wipe(), 0);
        due.same("9: pad", x.count(2), 0);
        due.same("9: put then", x.put('!'), 1);
        due.same("9: what was put", x.fault(), NONE);
        due.same("9: wipe is no change", x.count(3), 0);
    }

    private void faultOf(String text, int fault) {
        CoinRows x = new CoinRows();
        Due.putText(x, text);
        due.same("10: fault of " + text, x.fault(), fault);
        due.same("10: fault again of " + text, x.fault(), fault);
        due.same("10: pad of " + text, x.count(2), text.length());
        due.same("10: no change by " + text, x.count(3), 0);
        int weights = x.count(1);
        due.same("11: load of " + text, x.load() < 0 ? BAD_TEXT : 0, fault == NONE ? 0 : BAD_TEXT);
        due.same("11: pad behind the load of " + text, x.count(2), fault == NONE ? 0 : text.length());
        due.same("11: recorded by " + text, x.count(3), fault == NONE ? 1 : 0);
        if (fault != NONE) {
            due.same("11: nothing is given by " + text, x.count(1), weights);
            due.same("11: no row by " + text, x.count(0), 0);
        }
    }

    private void fault() {
        faultOf("", 0);
        faultOf("@", 1);
        faultOf("@0", 2);
        faultOf("@01", NONE);
        faultOf("@01;", 4);
        faultOf("@01;;", 4);
        faultOf(";", 0);
        faultOf("@01!", 3);
        faultOf("@012", 3);
        faultOf("@0123", 3);
        faultOf("@13;@12;!abcd;@1", 16);
        faultOf("@13;@12;!abcd;@1x", 16);
        faultOf("@13;2=c3;!abcd;@6", 16);
        faultOf("!a;x", 3);
        faultOf("a", 0);
        faultOf("6>01", 0);
        faultOf(">", 0);
        faultOf("A", 0);
        faultOf("~", 0);
        faultOf("/", 0);
        faultOf(":", 0);
    }

    private void faultOfParts() {
        faultOf("@60", 1);
        faultOf("@53", NONE);
        faultOf("@54", 2);
        faultOf("@a", 1);
        faultOf("5", 1);
        faultOf("5>", 2);
        faultOf("5>3", 3);
        faultOf("5>33", NONE);
        faultOf("5>34", 3);
        faultOf("0>60", 2);
        faultOf("0>53", NONE);
        faultOf("4>53", NONE);
        faultOf("4>40", NONE);
        faultOf("4>41", 3);
        faultOf("5>40", NONE);
        faultOf("5>42", 3);
        faultOf("5>50", NONE);
        faultOf("5>51", 3);
        faultOf("5>5", 3);
        faultOf("3=", 2);
        faultOf("3=d", 3);
        faultOf("3=d3", NONE);
        faultOf("3=d4", 3);
        faultOf("3=e0", 2);
        faultOf("3=A0", 2);
        faultOf("3=10", 2);
        faultOf("4=a0", 1);
        faultOf("5=a0", 1);
        faultOf("3<", 1);
        faultOf("!", NONE);
        faultOf("!;", 2);
        faultOf("!;!", NONE);
        faultOf("!abcdab", NONE);
        faultOf("!abcdabc", 7);
        faultOf("!abcdab;", 8);
        faultOf("!abe", 3);
        faultOf("!ab1", 3);
        faultOf("!!", 1);
    }

    private void load() {
        CoinRows x = new CoinRows();
        due.same("11: load of none", x.load(), BAD_TEXT);
        Due.putText(x, "@42;4>53;3=d1;!abc;!ca;3=d2;0=a0");
        due.same("11: load", x.load(), 7);
        due.same("11: pad", x.count(2), 0);
        due.same("11: one change", x.count(3), 1);
        due.same("11: begin", x.weight(BEGIN, 4, 0), 2);
        due.same("11: step", x.weight(STEP, 4, 5), 3);
        due.same("11: the later weight", x.weight(LETTER, 3, 3), 2);
        due.same("11: a weight of 0", x.weight(LETTER, 0, 0), 0);
        due.same("11: the later row", x.count(0), 2);
        due.same("11: its letter", x.letter(0) * 10 + x.letter(1), 20);
        due.same("11: others stay", x.weight(BEGIN, 0, 0), 1);
        due.same("11: load again", x.load(), BAD_TEXT);
        Due.putText(x, "!");
        due.same("11: an empty row", x.load(), 1);
        due.same("11: empty", x.count(0), 0);
        due.same("11: undone", x.undo(), 1);
        due.same("11: the row back", x.count(0), 2);
        due.same("11: the pad not back", x.count(2), 0);
        x.undo();
        due.same("11: weights back", x.count(1), 6);
        Due.putText(x, "@51;@6");
        due.same("11: bad text", x.load(), BAD_TEXT);
        due.same("11: the pad stays", x.count(2), 6);
        due.same("11: no weight is given", x.weight(BEGIN, 5, 0), 0);
        x = new CoinRows();
        Due.putText(x, "!;".repeat(39) + "!");
        due.same("11: forty parts", x.load(), 40);
    }

    private void total() {
        due.same("12: empty", new CoinRows().total(), 1);
        due.same("12: empty without begin", Due.loaded("@00").total(), 1);
        due.same("12: pair", Due.loaded(Examples.PAIR).total(), 46);
        due.same("12: silent", Due.loaded(Examples.SILENT).total(), 45);
        due.same("12: none", Due.loaded(Examples.DEAD).total(), 0);
        CoinRows x = Due.loaded("@42;@53;4>03;4>53;5>02;@00", "!a");
        due.same("12: begins that are silent", x.total(), 6 + 12 + 6);
        x.add(0);
        due.same("12: two letters", x.total(), 24);
        x.cut();
        x.cut();
        due.same("12: empty again", x.total(), 1);
    }

    private void forward() {
        CoinRows x = Due.loaded(Examples.PAIR);
        due.same("13: 0 0", x.forward(0, 0), 1);
        due.same("13: 0 1", x.forward(0, 1), 6);
        due.same("13: 1 0", x.forward(1, 0), 38);
        due.same("13: 1 1", x.forward(1, 1), 8);
        due.same("13: 1 2", x.forward(1, 2), 0);
        due.same("13: place 2", x.forward(2, 0), NO_SUCH);
        due.same("13: place -1", x.forward(-1, 0), NO_SUCH);
        due.same("13: coin 4", x.forward(0, 4), NO_SUCH);
        due.same("13: coin -1", x.forward(0, -1), NO_SUCH);
        due.same("13: extreme", x.forward(MAX, MIN), NO_SUCH);
        due.same("13: empty", new CoinRows().forward(0, 0), NO_SUCH);
        due.same("13: silent 0", Due.loaded(Examples.SILENT).forward(0, 0), 3);
        due.same("13: silent 1", Due.loaded(Examples.SILENT).forward(1, 0), 45);
        x = Due.loaded("0=b0;@13;1=a2;!ab");
        due.same("13: cannot be gone on with", x.forward(0, 1), 6);
        due.same("13: nor this", x.forward(0, 0), 1);
        due.same("13: not come to", x.forward(1, 0), 0);
    }

    private void backward() {
        CoinRows x = Due.loaded(Examples.PAIR);
        due.same("14: 0 0", x.backward(0, 0), 4);
        due.same("14: 0 1", x.backward(0, 1), 7);
        due.same("14: 0 2", x.backward(0, 2), 0);
        due.same("14: last 0", x.backward(1, 0), 1);
        due.same("14: last 3", x.backward(1, 3), 1);
        due.same("14: place 2", x.backward(2, 0), NO_SUCH);
        due.same("14: place -1", x.backward(-1, 0), NO_SUCH);
        due.same("14: coin 4", x.backward(0, 4), NO_SUCH);
        due.same("14: coin -1", x.backward(0, -1), NO_SUCH);
        due.same("14: extreme", x.backward(MIN, MAX), NO_SUCH);
        due.same("14: empty", new CoinRows().backward(0, 0), NO_SUCH);
        due.same("14: silent", Due.loaded(Examples.SILENT).backward(0, 0), 15);
        x = Due.loaded("3>02;3>43;4>01;0=a0;!ab");
        due.same("14: cannot be come to", x.backward(0, 3), 5);
        due.same("14: tells no such letter", x.backward(0, 0), 1);
    }

    private void ways() {
        due.same("15: empty", new CoinRows().ways(), 1);
        due.same("15: pair", Due.loaded(Examples.PAIR).ways(), 4);
        due.same("15: silent", Due.loaded(Examples.SILENT).ways(), 6);
        due.same("15: none", Due.loaded(Examples.DEAD).ways(), 0);
        due.same("15: one weighs 0", Due.loaded(Examples.PAIR[0] + ";1=b0", Examples.PAIR[1]).ways(), 2);
    }

    private void way() {
        CoinRows x = Due.loaded(Examples.PAIR);
        int[][] ways = {{0, 0}, {0, 1}, {1, 0}, {1, 1}};
        checkWays("16: pair", x, ways);
        due.same("16: what -2", x.way(0, -2), BAD_VALUE);
        due.same("16: what MIN", x.way(3, MIN), BAD_VALUE);
        due.same("16: no such way ahead of what", x.way(4, -2), NO_SUCH);
        due.same("16: way -1", x.way(-1, 0), NO_SUCH);
        due.same("16: way MIN", x.way(MIN, -9), NO_SUCH);
        due.same("16: way MAX", x.way(MAX, 0), NO_SUCH);
        x = Due.loaded(Examples.SILENT);
        int[][] silent = {{0, 0}, {0, 4, 0}, {0, 4, 5, 0}, {5, 0, 0}, {5, 0, 4, 0}, {5, 0, 4, 5, 0}};
        checkWays("16: silent", x, silent);
        checkWays("16: empty", new CoinRows(), new int[][] {{}});
        checkWays("16: none", Due.loaded(Examples.DEAD), new int[][] {});
        due.same("16: not a way of none", Due.loaded(Examples.DEAD).way(0, -2), NO_SUCH);
        due.same("16: bad what of the empty way", new CoinRows().way(0, -2), BAD_VALUE);
    }

    private void checkWays(String name, CoinRows x, int[][] ways) {
        due.same(name + " number", x.ways(), ways.length);
        for (int i = 0; i < ways.length; i++) {
            due.same(name + " size " + i, x.way(i, -1), ways[i].length);
            for (int j = 0; j < ways[i].length; j++) {
                due.same(name + " coin " + i + " " + j, x.way(i, j), ways[i][j]);
            }
            due.same(name + " behind " + i, x.way(i, ways[i].length), NONE);
            due.same(name + " far behind " + i, x.way(i, MAX), NONE);
        }
        due.same(name + " behind the last", x.way(ways.length, 0), NO_SUCH);
    }

    private void weighs() {
        CoinRows x = Due.loaded(Examples.PAIR);
        long[] pair = {2, 2, 36, 6};
        for (int i = 0; i < pair.length; i++) {
            due.same("17: pair " + i, x.weighs(i), pair[i]);
        }
        x = Due.loaded(Examples.SILENT);
        long[] silent = {1, 2, 12, 2, 4, 24};
        for (int i = 0; i < silent.length; i++) {
            due.same("17: silent " + i, x.weighs(i), silent[i]);
        }
        due.same("17: behind the last", x.weighs(6), NO_SUCH);
        due.same("17: -1", x.weighs(-1), NO_SUCH);
        due.same("17: MAX", x.weighs(MAX), NO_SUCH);
        due.same("17: MIN", x.weighs(MIN), NO_SUCH);
        due.same("17: empty", new CoinRows().weighs(0), 1);
        due.same("17: empty 1", new CoinRows().weighs(1), NO_SUCH);
        due.same("17: none", Due.loaded(Examples.DEAD).weighs(0), NO_SUCH);
    }

    private void likeliest() {
        CoinRows x = Due.loaded(Examples.PAIR);
        due.same("18: number", x.likeliest(-2), 2);
        due.same("18: size", x.likeliest(-1), 2);
        due.same("18: coin 0", x.likeliest(0), 1);
        due.same("18: coin 1", x.likeliest(1), 0);
        due.same("18: coin 2", x.likeliest(2), NONE);
        due.same("18: MAX", x.likeliest(MAX), NONE);
        due.same("18: -3", x.likeliest(-3), BAD_VALUE);
        due.same("18: MIN", x.likeliest(MIN), BAD_VALUE);
        x = Due.loaded(Examples.DEAD);
        due.same("18: none", x.likeliest(-2), NOT_POSSIBLE);
        due.same("18: none 5", x.likeliest(5), NOT_POSSIBLE);
        due.same("18: none -3", x.likeliest(-3), BAD_VALUE);
        x = new CoinRows();
        due.same("18: empty number", x.likeliest(-2), 0);
        due.same("18: empty size", x.likeliest(-1), 0);
        due.same("18: empty coin", x.likeliest(0), NONE);
        due.same("18: silent", Due.loaded(Examples.SILENT).likeliest(-2), 5);
        x = Due.loaded("0=a3;@11;1=a2;2=a3;@21;@31;3=a3;!a");
        due.same("18: the first of several", x.likeliest(-2), 0);
        x = Due.loaded("@00;@11;@41;4>13;1=b3;1=a1;1>13;1>01;0>03;0=b3;!ab");
        due.same("18: the first of several by its coins", x.likeliest(-2), 3);
        due.same("18: its first coin", x.likeliest(0), 4);
        x = Due.loaded("@12;1=a1;0=a2;!a");
        due.same("18: the same weight by other ways", x.likeliest(0), 0);
    }

    private void fraction(String name, long upper, long lower, long wantUpper, long wantLower) {
        due.same(name + " upper", upper, wantUpper);
        due.same(name + " lower", lower, wantLower);
    }

    private void odds() {
        CoinRows x = Due.loaded(Examples.PAIR);
        long[][] want = {{2, 23}, {21, 23}, {0, 1}, {0, 1}, {19, 23}, {4, 23}, {0, 1}, {0, 1}};
        for (int place = 0; place < 2; place++) {
            for (int coin = 0; coin < 4; coin++) {
                long[] due = want[place * 4 + coin];
                fraction("19: " + place + " " + coin, x.odds(place, coin, 0), x.odds(place, coin, 1), due[0], due[1]);
            }
        }
        due.same("19: place 2", x.odds(2, 0, 0), NO_SUCH);
        due.same("19: place ahead of part", x.odds(-1, 0, 2), NO_SUCH);
        due.same("19: coin 4", x.odds(0, 4, 0), NO_SUCH);
        due.same("19: coin ahead of part", x.odds(0, -1, -1), NO_SUCH);
        due.same("19: part 2", x.odds(0, 0, 2), BAD_VALUE);
        due.same("19: part -1", x.odds(0, 0, -1), BAD_VALUE);
        due.same("19: extreme", x.odds(MIN, MAX, MAX), NO_SUCH);
        due.same("19: empty", new CoinRows().odds(0, 0, 0), NO_SUCH);
        x = Due.loaded(Examples.DEAD);
        due.same("19: none", x.odds(0, 0, 0), NOT_POSSIBLE);
        due.same("19: none by a bad part", x.odds(0, 0, 2), BAD_VALUE);
        due.same("19: none at no place", x.odds(2, 0, 0), NO_SUCH);
        x = Due.loaded(Examples.SILENT);
        fraction("19: sure", x.odds(1, 0, 0), x.odds(1, 0, 1), 1, 1);
    }

    private void likelyAt() {
        CoinRows x = Due.loaded(Examples.PAIR);
        due.same("20: 0", x.likelyAt(0), 1);
        due.same("20: 1", x.likelyAt(1), 0);
        due.same("20: 2", x.likelyAt(2), NO_SUCH);
        due.same("20: -1", x.likelyAt(-1), NO_SUCH);
        due.same("20: MIN", x.likelyAt(MIN), NO_SUCH);
        due.same("20: silent coins tell no letter", Examples.heavy().likelyAt(2), 0);
        due.same("20: empty", new CoinRows().likelyAt(0), NO_SUCH);
        due.same("20: none", Due.loaded(Examples.DEAD).likelyAt(1), NOT_POSSIBLE);
        due.same("20: none at no place", Due.loaded(Examples.DEAD).likelyAt(2), NO_SUCH);
        due.same("20: the lowest of several", Due.loaded("@00;@11;@21;@31;1=a1;2=a2;3=a2;!a").likelyAt(0), 2);
        // the likeliest way begins with 0, but more ways together begin with 1
        x = Due.loaded("0=a3;0=b1;@11;1=a1;1>11;1>21;1=b2;2=b2", "!ab");
        due.same("20: not the likeliest way", x.likelyAt(0), 1);
        due.same("20: which is this", x.likeliest(0), 0);
    }

    private void expect(String name, CoinRows x, int[] weight, long upper, long lower) {
        long first = x.expected(weight[0], weight[1], weight[2], 0);
        long second = x.expected(weight[0], weight[1], weight[2], 1);
        fraction(name + " " + weight[0] + " " + weight[1] + " " + weight[2], first, second, upper, lower);
    }

    private void expected() {
        CoinRows x = Due.loaded(Examples.PAIR);
        expect("21:", x, new int[] {BEGIN, 0, 0}, 2, 23);
        expect("21:", x, new int[] {BEGIN, 1, 0}, 21, 23);
        expect("21:", x, new int[] {BEGIN, 5, 0}, 0, 1);
        expect("21:", x, new int[] {STEP, 0, 0}, 1, 23);
        expect("21:", x, new int[] {STEP, 1, 0}, 18, 23);
        expect("21:", x, new int[] {STEP, 1, 1}, 3, 23);
        expect("21:", x, new int[] {STEP, 5, 4}, 0, 1);
        expect("21:", x, new int[] {LETTER, 0, 0}, 2, 23);
        expect("21:", x, new int[] {LETTER, 0, 1}, 19, 23);
        expect("21:", x, new int[] {LETTER, 1, 1}, 4, 23);
        expect("21:", x, new int[] {LETTER, 0, 3}, 0, 1);
        int[][] none = {{BEGIN, 0, 1}, {BEGIN, 6, 0}, {BEGIN, -1, 0}, {STEP, 6, 0}, {STEP, 0, 6}, {STEP, 0, -1}, {LETTER, 4, 0}, {LETTER, 0, 4}};
        for (int[] call : none) {
            due.same("21: no such " + call[0] + " " + call[1] + " " + call[2], x.expected(call[0], call[1], call[2], 1), NO_SUCH);
            due.same("21: part ahead", x.expected(call[0], call[1], call[2], 2), BAD_VALUE);
        }
        due.same("21: kind 3", x.expected(3, 0, 0, 0), BAD_VALUE);
        due.same("21: kind -1", x.expected(-1, 9, 9, 0), BAD_VALUE);
        due.same("21: part -1", x.expected(0, 0, 0, -1), BAD_VALUE);
        due.same("21: extreme", x.expected(MAX, MIN, MIN, MAX), BAD_VALUE);
        x = Due.loaded(Examples.SILENT);
        expect("21: silent", x, new int[] {STEP, 4, 5}, 4, 5);
        expect("21: silent", x, new int[] {STEP, 0, 4}, 14, 15);
        expect("21: silent", x, new int[] {BEGIN, 5, 0}, 2, 3);
        expect("21: silent", x, new int[] {STEP, 5, 0}, 22, 15);
        expect("21: twice", Due.loaded("!aba"), new int[] {LETTER, 0, 0}, 2, 1);
        expect("21: three times", Due.loaded("!abab"), new int[] {STEP, 0, 0}, 3, 1);
        expect("21: empty", new CoinRows(), new int[] {BEGIN, 0, 0}, 0, 1);
        expect("21: empty", new CoinRows(), new int[] {STEP, 0, 0}, 0, 1);
        expect("21: empty", new CoinRows(), new int[] {LETTER, 0, 0}, 0, 1);
        x = Due.loaded(Examples.DEAD);
        due.same("21: none", x.expected(0, 0, 0, 0), NOT_POSSIBLE);
        due.same("21: none of no coin", x.expected(0, 6, 0, 0), NO_SUCH);
        due.same("21: none by a bad part", x.expected(0, 0, 0, 3), BAD_VALUE);
    }

    private void shareBits() {
        due.same("22: pair", Due.loaded(Examples.PAIR).shareBits(), Float.floatToIntBits((float) (36.0 / 46.0)));
        due.same("22: silent", Due.loaded(Examples.SILENT).shareBits(), Float.floatToIntBits((float) (24.0 / 45.0)));
        due.same("22: one way", Due.loaded("!abc").shareBits(), Float.floatToIntBits(1));
        due.same("22: empty", new CoinRows().shareBits(), Float.floatToIntBits(1));
        due.same("22: none", Due.loaded(Examples.DEAD).shareBits(), NOT_POSSIBLE);
        due.same("22: a half", Due.loaded("@11;1=a1;!a").shareBits(), Float.floatToIntBits(0.5f));
    }

    private void next() {
        CoinRows x = Due.loaded(Examples.PAIR);
        due.same("23: letter", x.next(0), 0);
        due.same("23: total", x.next(1), 314);
        due.same("23: what 2", x.next(2), BAD_VALUE);
        due.same("23: what -1", x.next(-1), BAD_VALUE);
        due.same("23: what MIN", x.next(MIN), BAD_VALUE);
        due.same("23: the row stays", x.count(0), 2);
        due.same("23: no change", x.count(3), 2);
        due.same("23: the lowest of several", new CoinRows().next(0), 0);
        due.same("23: behind the empty row", Due.loaded("@03;0=c2;0=d2").next(0), 2);
        due.same("23: its total", Due.loaded("@03;0=c2;0=d2").next(1), 6);
        due.same("23: silent", Due.loaded("@00;@41;4>52;5>03").next(1), 6);
        due.same("23: silent behind a letter", Due.loaded("0>00;0>42;4>53;5>01;!a").next(1), 6);
        due.same("23: none", Due.loaded(Examples.DEAD).next(0), NONE);
        due.same("23: none by its total", Due.loaded(Examples.DEAD).next(1), NONE);
        due.same("23: none, bad", Due.loaded(Examples.DEAD).next(2), BAD_VALUE);
        due.same("23: no step on", Due.loaded("0>00;!a").next(0), NONE);
        x = Due.loaded("!abcdab");
        due.same("23: six letters", x.next(0), NOT_POSSIBLE);
        due.same("23: six letters, bad", x.next(2), BAD_VALUE);
        x.cut();
        due.same("23: five letters", x.next(1), 1);
    }

    private void slip() {
        due.same("24: none", Due.loaded(Examples.PAIR).slip(0), NONE);
        CoinRows x = Due.loaded(Examples.PAIR[0], "!ba");
        due.same("24: place", x.slip(0), 0);
        due.same("24: letter", x.slip(1), 0);
        due.same("24: total", x.slip(2), 43);
        due.same("24: what 3", x.slip(3), BAD_VALUE);
        due.same("24: what -1", x.slip(-1), BAD_VALUE);
        due.same("24: what MAX", x.slip(MAX), BAD_VALUE);
        due.same("24: the row stays", x.letter(0), 1);
        due.same("24: no change", x.count(3), 2);
        due.same("24: empty", new CoinRows().slip(0), NONE);
        due.same("24: empty, bad", new CoinRows().slip(3), BAD_VALUE);
        due.same("24: all the same", Due.loaded("!abc").slip(2), NONE);
        x = Due.loaded("0=c3;0=d3;!ab");
        due.same("24: the first place", x.slip(0), 0);
        due.same("24: the lowest letter", x.slip(1), 2);
        due.same("24: three times as much", x.slip(2), 3);
        x = Due.loaded("0=a2;0=b1;0=c3;0=d0;!aad");
        due.same("24: from 0: place", x.slip(0), 2);
        due.same("24: from 0: letter", x.slip(1), 2);
        due.same("24: from 0: total", x.slip(2), 12);
        due.same("24: two are wrong", Due.loaded("0=d0;!dd").slip(0), NONE);
    }

    private void count() {
        CoinRows x = Due.loaded(Examples.SILENT);
        due.same("25: length", x.count(0), 2);
        due.same("25: weights", x.count(1), 11);
        due.same("25: pad", x.count(2), 0);
        due.same("25: changes", x.count(3), 1);
        for (int what : new int[] {-1, 4, MIN, MAX}) {
            due.same("25: what " + what, x.count(what), BAD_VALUE);
        }
        Due.putText(x, "@012345678");
        due.same("25: pad of ten", x.count(2), 10);
        x.give(STEP, 0, 0, 0);
        due.same("25: a weight less", x.count(1), 10);
        x.give(STEP, 0, 1, 2);
        x.give(STEP, 0, 1, 3);
        due.same("25: a weight more", x.count(1), 11);
        due.same("25: four changes", x.count(3), 4);
        due.same("25: all", Examples.heavy().count(1), 6 + 33 + 16);
        due.same("25: six changes", Examples.heavy().count(3), 6);
    }

    private void undo() {
        CoinRows x = new CoinRows();
        due.same("26: none", x.undo(), NOT_POSSIBLE);
        for (int i = 0; i < 6; i++) {
            x.add(i % 4);
        }
        x.give(BEGIN, 0, 0, 2);
        x.give(BEGIN, 0, 0, 3);
        due.same("26: six are kept", x.count(3), 6);
        due.same("26: undo", x.undo(), 5);
        due.same("26: the weight before", x.weight(BEGIN, 0, 0), 2);
        due.same("26: undo again", x.undo(), 4);
        due.same("26: the weight at first", x.weight(BEGIN, 0, 0), 1);
        for (int i = 5; i > 1; i--) {
            due.same("26: undo to " + i, x.undo(), i - 2);
            due.same("26: length " + i, x.count(0), i);
            due.same("26: letter " + i, x.letter(i - 1), (i - 1) % 4);
        }
        due.same("26: no more", x.undo(), NOT_POSSIBLE);
        due.same("26: the state stays", x.count(0), 2);
        due.same("26: the letter that was dropped", x.add(3) + x.letter(2), 6);
        due.same("26: undo of it", x.undo(), 0);
        x.cut();
        x.add(2);
        x.undo();
        due.same("26: undo add", x.count(0), 1);
        x.undo();
        due.same("26: the letter before it", x.letter(1), 1);
        Due.putText(x, "@0");
        x.save(0);
        x.add(1);
        x.undo();
        due.same("26: the pad is not undone", x.count(2), 2);
        due.same("26: nor what was saved", x.restore(0), 2);
    }

    private void undoOfEachChange() {
        CoinRows x = Due.loaded("!abc");
        x.give(BEGIN, 0, 0, 1);
        due.same("26: recorded though nothing is different", x.count(3), 2);
        x.cut();
        x.save(1);
        x.train();
        x.restore(1);
        due.same("26: each is recorded", x.count(3), 5);
        due.same("26: undo restore", x.undo(), 4);
        due.same("26: weights that were trained", x.weight(BEGIN, 0, 0), 3);
        due.same("26: undo train", x.undo(), 3);
        due.same("26: weights that were not", x.weight(BEGIN, 0, 0), 1);
        due.same("26: undo cut", x.undo(), 2);
        due.same("26: the row", x.letter(2), 2);
        due.same("26: undo give", x.undo(), 1);
        due.same("26: undo load", x.undo(), 0);
        due.same("26: no row", x.count(0), 0);
        x.add(9);
        x.give(9, 0, 0, 0);
        x.load();
        x.cut();
        x.train();
        x.restore(5);
        x.restore(0);
        x.save(0);
        x.total();
        x.fault();
        due.same("26: no change at all", x.count(3), 0);
    }

    private void save() {
        CoinRows x = Due.loaded(Examples.PAIR);
        for (int slot : new int[] {-1, 2, MIN, MAX}) {
            due.same("27: slot " + slot, x.save(slot), BAD_VALUE);
        }
        due.same("27: save", x.save(0), 2);
        due.same("27: no change", x.count(3), 2);
        x.add(0);
        x.give(BEGIN, 0, 0, 0);
        due.same("27: save in the other", x.save(1), 3);
        due.same("27: restore", x.restore(0), 2);
        due.same("27: total", x.total(), 46);
        x.cut();
        due.same("27: save over it", x.save(0), 1);
        due.same("27: the other", x.restore(1), 3);
        due.same("27: its weight", x.weight(BEGIN, 0, 0), 0);
        due.same("27: what was saved over it", x.restore(0), 1);
        due.same("27: empty", new CoinRows().save(1), 0);
    }

    private void restore() {
        CoinRows x = Due.loaded(Examples.PAIR);
        for (int slot : new int[] {-1, 2, MIN, MAX}) {
            due.same("28: slot " + slot, x.restore(slot), BAD_VALUE);
        }
        due.same("28: none", x.restore(0), NOT_POSSIBLE);
        due.same("28: none in 1", x.restore(1), NOT_POSSIBLE);
        x.save(1);
        due.same("28: none in 0", x.restore(0), NOT_POSSIBLE);
        due.same("28: not recorded", x.count(3), 2);
        x.cut();
        x.give(LETTER, 0, 0, 3);
        Due.putText(x, "@0");
        due.same("28: restore", x.restore(1), 2);
        due.same("28: the pad stays", x.count(2), 2);
        due.same("28: recorded", x.count(3), 5);
        due.same("28: the weight", x.weight(LETTER, 0, 0), 1);
        x.add(2);
        x.give(LETTER, 0, 0, 2);
        due.same("28: kept", x.restore(1), 2);
        due.same("28: kept weight", x.weight(LETTER, 0, 0), 1);
        due.same("28: undone", x.undo(), 5);
        due.same("28: the row before", x.count(0), 3);
        due.same("28: the weight before", x.weight(LETTER, 0, 0), 2);
        Due.putText(x, "1;!dd");
        x.load();
        x.restore(1);
        due.same("28: the letters", x.letter(0) * 10 + x.letter(1), 1);
    }

    /** All weights 3 and six letters: the greatest numbers that there are. */
    private void greatestNumbers() {
        CoinRows x = Examples.heavy();
        long total = 576L * 576 * 576 * 576 * 576 * 576;
        due.same("12: greatest total", x.total(), total);
        due.same("13: greatest forward", x.forward(5, 3), total / 4);
        due.same("14: greatest backward", x.backward(0, 3), total / 576);
        due.same("15: most ways", x.ways(), 1 << 24);
        due.same("16: last way", x.way((1 << 24) - 1, -1), 12);
        due.same("16: its coin", x.way((1 << 24) - 1, 10), 5);
        due.same("16: its last coin", x.way((1 << 24) - 1, 11), 3);
        due.same("16: behind the last", x.way(1 << 24, 0), NO_SUCH);
        due.same("17: first way", x.weighs(0), 531441);
        due.same("17: last way", x.weighs((1 << 24) - 1), 387420489);
        due.same("18: likeliest", x.likeliest(-2), 8947848);
        due.same("18: its size", x.likeliest(-1), 18);
        due.same("18: its last coin", x.likeliest(17), 0);
        due.same("18: its last silent coin", x.likeliest(16), 5);
        due.same("18: behind it", x.likeliest(18), NONE);
        due.same("17: likeliest", x.weighs(8947848), 282429536481L);
        fraction("19: odds", x.odds(5, 2, 0), x.odds(5, 2, 1), 1, 4);
        expect("21: step", x, new int[] {STEP, 0, 0}, 5, 256);
        expect("21: silent step", x, new int[] {STEP, 4, 5}, 27, 8);
        expect("21: letter", x, new int[] {LETTER, 0, 0}, 1, 2);
        due.same("22: share", x.shareBits(), 922861328);
        x.cut();
        due.same("23: next", x.next(1), total);
        due.same("24: slip", x.slip(0), NONE);
    }
}
