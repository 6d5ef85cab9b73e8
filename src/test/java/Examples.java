/** Small models whose numbers were worked out by hand, and the greatest one. */
final class Examples {
    /** Two loud coins, whose four ways of "ab" weigh 2, 2, 36 and 6. */
    static final String[] PAIR = {"@12;0>01;0>12;1>03;1>11;0=b2;1=a3;1=b1", "!ab"};
    /** One loud coin and both silent ones; the six ways of "ad" weigh 1, 2, 12, 2, 4 and 24. */
    static final String[] SILENT = {"@51;0>42;4>01;4>53;5>02;!ad"};
    /** The coin 0 tells no a, and the row begins with one: there is no way. */
    static final String[] DEAD = {"0=a0;!ab"};

    private Examples() {
    }

    /** All weights that can be 3 are 3; the letters go a, b, c, d, a, b. */
    static CoinRows heavy(int letters) {
        CoinRows rows = new CoinRows();
        for (int coin = 0; coin < 6; coin++) {
            rows.give(CoinRows.BEGIN, coin, 0, 3);
            for (int to = 0; to < 6; to++) {
                rows.give(CoinRows.STEP, coin, to, 3);
                rows.give(CoinRows.LETTER, coin, to, 3);
            }
        }
        for (int i = 0; i < letters; i++) {
            rows.add(i % 4);
        }
        return rows;
    }

    static CoinRows heavy() {
        return heavy(6);
    }

    /** All weights are 0. */
    static CoinRows bare() {
        return Due.loaded("@00;0>00;0=a0;0=b0;0=c0;0=d0");
    }

    /** Everything that can be asked of the state without a change: weights, row, numbers and fault. */
    static String state(CoinRows rows) {
        StringBuilder text = new StringBuilder();
        for (int coin = 0; coin < 6; coin++) {
            text.append(rows.weight(CoinRows.BEGIN, coin, 0)).append(' ');
            for (int to = 0; to < 6; to++) {
                text.append(rows.weight(CoinRows.STEP, coin, to)).append(' ');
                text.append(coin < 4 && to < 4 ? rows.weight(CoinRows.LETTER, coin, to) + " " : "");
            }
        }
        for (int what = 0; what < 4; what++) {
            text.append(rows.count(what)).append(' ');
        }
        for (int place = 0; place < rows.count(0); place++) {
            text.append(rows.letter(place)).append(' ');
        }
        return text.append(rows.fault()).toString();
    }

    /** Also what the pad, the slots and the history hold; the object is used up by that. */
    static String wholeState(CoinRows rows) {
        StringBuilder text = new StringBuilder(state(rows));
        int undone = rows.count(3);
        for (int i = 0; i < undone; i++) {
            text.append("\nundo ").append(rows.undo()).append(": ").append(weightsAndRow(rows));
        }
        for (int slot = 0; slot < 2; slot++) {
            text.append("\nrestore ").append(rows.restore(slot)).append(": ").append(weightsAndRow(rows));
        }
        text.append("\nload ").append(rows.load()).append(": ").append(weightsAndRow(rows));
        // a "!" begins a part wherever one has begun to be written, so it shows where the text had its fault
        return text.append("\npad ").append(rows.put('!')).append(' ').append(rows.fault()).toString();
    }

    private static String weightsAndRow(CoinRows rows) {
        StringBuilder text = new StringBuilder();
        for (int coin = 0; coin < 6; coin++) {
            text.append(rows.weight(CoinRows.BEGIN, coin, 0));
            for (int letter = 0; coin < 4 && letter < 4; letter++) {
                text.append(rows.weight(CoinRows.LETTER, coin, letter));
            }
        }
        text.append(' ').append(rows.count(1));
        for (int place = 0; place < rows.count(0); place++) {
            text.append(' ').append(rows.letter(place));
        }
        return text.toString();
    }
}
