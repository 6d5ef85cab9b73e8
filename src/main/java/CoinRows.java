/** Hidden coins behind a row of letters; ../shared/DOC.md says what each call answers. */
public final class CoinRows {
    public static final int NO_SUCH = -1, BAD_VALUE = -2, BAD_TEXT = -3, TOO_MANY = -4, NOT_POSSIBLE = -5, NONE = -6;
    public static final int BEGIN = 0, STEP = 1, LETTER = 2;

    private static final int COINS = 6;
    private static final int LOUD = 4;
    private static final int LETTERS = 4;
    private static final int TOP_WEIGHT = 3;
    private static final int LONGEST_ROW = 6;

    /** The weights to begin are held as the steps of a seventh coin, so that one sum serves for both. */
    private static final int START = COINS;
    private static final int FIRST_LETTER_WEIGHT = (COINS + 1) * COINS;
    private static final int WEIGHTS = FIRST_LETTER_WEIGHT + LOUD * LETTERS;

    /** Ahead of each loud coin a way can have both silent ones, 4 and then 5, and no more. */
    private static final int LONGEST_WAY = 3 * LONGEST_ROW;

    private static final int LONGEST_PAD = 80;
    private static final int HISTORY = 6;
    private static final int SLOTS = 2;

    private final Model model = new Model();
    private final Model[] history = new Model[HISTORY];
    private int remembered = 0;
    private final Model[] slots = new Model[SLOTS];
    private final Pad pad = new Pad();
    private final Sums sums = new Sums();
    private final Walk walk = new Walk();
    private final Trainer trainer = new Trainer();

    public CoinRows() {
        model.weights[START * COINS] = 1;
        model.weights[0] = 1;
        for (int sign = 0; sign < LETTERS; sign++) {
            model.weights[FIRST_LETTER_WEIGHT + sign] = 1;
        }
        for (int i = 0; i < HISTORY; i++) {
            history[i] = new Model();
        }
    }

    // ---- weights, the row

    public int give(int kind, int coin, int to, int weight) {
        if (!isKind(kind) || weight < 0 || weight > TOP_WEIGHT) {
            return BAD_VALUE;
        }
        int index = indexOf(kind, coin, to);
        if (index < 0) {
            return NO_SUCH;
        }
        if (weight > 0 && kind == STEP && isBarred(coin, to)) {
            return NOT_POSSIBLE;
        }
        remember();
        int former = model.weights[index];
        model.weights[index] = weight;
        return former;
    }

    public int weight(int kind, int coin, int to) {
        if (!isKind(kind)) {
            return BAD_VALUE;
        }
        int index = indexOf(kind, coin, to);
        return index < 0 ? NO_SUCH : model.weights[index];
    }

    public int add(int letter) {
        if (letter < 0 || letter >= LETTERS) {
            return BAD_VALUE;
        }
        if (model.length >= LONGEST_ROW) {
            return TOO_MANY;
        }
        remember();
        model.append(letter);
        return model.length;
    }

    public int cut() {
        if (model.length <= 0) {
            return NOT_POSSIBLE;
        }
        remember();
        model.length--;
        return model.row[model.length];
    }

    public int letter(int place) {
        return model.hasPlace(place) ? model.row[place] : NO_SUCH;
    }

    public int train() {
        if (model.length == 0) {
            return NOT_POSSIBLE;
        }
        sums.measure(model);
        if (sums.whole() == 0) {
            return NOT_POSSIBLE;
        }
        remember();
        return trainer.improve(model, sums);
    }

    // ---- texts

    public int put(long characters) {
        int signs = Pad.countSigns(characters);
        if (signs < 1) {
            return BAD_VALUE;
        }
        if (pad.length + signs > LONGEST_PAD) {
            return TOO_MANY;
        }
        pad.append(characters, signs);
        return pad.length;
    }

    public int wipe() {
        return pad.clear();
    }

    public int fault() {
        return pad.read(null) ? NONE : pad.at;
    }

    public int load() {
        if (!pad.read(null)) {
            return BAD_TEXT;
        }
        remember();
        pad.read(model);
        pad.clear();
        return pad.parts;
    }

    // ---- ways

    public long total() {
        sums.measure(model);
        return sums.whole();
    }

    public long forward(int place, int coin) {
        if (!model.hasPlace(place) || !isLoud(coin)) {
            return NO_SUCH;
        }
        sums.measure(model);
        return sums.before[place + 1][coin];
    }

    public long backward(int place, int coin) {
        if (!model.hasPlace(place) || !isLoud(coin)) {
            return NO_SUCH;
        }
        sums.measure(model);
        return sums.after[place + 1][coin];
    }

    public int ways() {
        sums.measure(model);
        return sums.number();
    }

    public int way(int way, int what) {
        sums.measure(model);
        if (way < 0 || way >= sums.number()) {
            return NO_SUCH;
        }
        if (what < -1) {
            return BAD_VALUE;
        }
        walk.follow(model, sums, way);
        return walk.tell(what);
    }

    public long weighs(int way) {
        sums.measure(model);
        if (way < 0 || way >= sums.number()) {
            return NO_SUCH;
        }
        walk.follow(model, sums, way);
        return walk.product;
    }

    public int likeliest(int what) {
        if (what < -2) {
            return BAD_VALUE;
        }
        sums.measure(model);
        if (sums.whole() == 0) {
            return NOT_POSSIBLE;
        }
        int way = walk.findBest(model, sums);
        if (what == -2) {
            return way;
        }
        walk.follow(model, sums, way);
        return walk.tell(what);
    }

    // ---- odds

    public long odds(int place, int coin, int part) {
        if (!model.hasPlace(place) || !isLoud(coin)) {
            return NO_SUCH;
        }
        if (!isPart(part)) {
            return BAD_VALUE;
        }
        sums.measure(model);
        if (sums.whole() == 0) {
            return NOT_POSSIBLE;
        }
        return inLowestTerms(sums.through(place, coin), sums.whole(), part);
    }

    public int likelyAt(int place) {
        if (!model.hasPlace(place)) {
            return NO_SUCH;
        }
        sums.measure(model);
        if (sums.whole() == 0) {
            return NOT_POSSIBLE;
        }
        int likely = 0;
        for (int coin = 1; coin < LOUD; coin++) {
            if (sums.through(place, coin) > sums.through(place, likely)) {
                likely = coin;
            }
        }
        return likely;
    }

    public long expected(int kind, int coin, int to, int part) {
        if (!isKind(kind) || !isPart(part)) {
            return BAD_VALUE;
        }
        if (indexOf(kind, coin, to) < 0) {
            return NO_SUCH;
        }
        sums.measure(model);
        if (sums.whole() == 0) {
            return NOT_POSSIBLE;
        }
        long upper;
        if (kind == LETTER) {
            upper = sums.ofLetter(model, coin, to);
        } else if (kind == STEP) {
            upper = sums.ofStep(model, coin, to);
        } else {
            upper = sums.ofStep(model, START, coin);
        }
        return inLowestTerms(upper, sums.whole(), part);
    }

    public int shareBits() {
        sums.measure(model);
        if (sums.whole() == 0) {
            return NOT_POSSIBLE;
        }
        double share = (double) sums.greatest() / (double) sums.whole();
        return bitsOf((float) share);
    }

    public long next(int what) {
        if (what < 0 || what > 1) {
            return BAD_VALUE;
        }
        if (model.length >= LONGEST_ROW) {
            return NOT_POSSIBLE;
        }
        sums.measure(model);
        int best = 0;
        long most = 0;
        for (int sign = 0; sign < LETTERS; sign++) {
            long then = sums.wholeIfNext(model, sign);
            if (then > most) {
                most = then;
                best = sign;
            }
        }
        if (most == 0) {
            return NONE;
        }
        return what == 0 ? best : most;
    }

    public long slip(int what) {
        if (what < 0 || what > 2) {
            return BAD_VALUE;
        }
        sums.measure(model);
        int bestPlace = -1;
        int bestSign = -1;
        long most = sums.whole();
        for (int place = 0; place < model.length; place++) {
            for (int sign = 0; sign < LETTERS; sign++) {
                // the letter that stands there gives the total itself, which is never greater
                long then = sums.wholeIfChanged(model, place, sign);
                if (then > most) {
                    most = then;
                    bestPlace = place;
                    bestSign = sign;
                }
            }
        }
        if (bestPlace < 0) {
            return NONE;
        }
        if (what == 0) {
            return bestPlace;
        }
        return what == 1 ? bestSign : most;
    }

    public int count(int what) {
        switch (what) {
            case 0:
                return model.length;
            case 1:
                return model.countWeights();
            case 2:
                return pad.length;
            case 3:
                return remembered;
            default:
                return BAD_VALUE;
        }
    }

    // ---- undo, saving

    public int undo() {
        if (remembered <= 0) {
            return NOT_POSSIBLE;
        }
        remembered--;
        model.copyFrom(history[remembered]);
        return remembered;
    }

    public int save(int slot) {
        if (slot < 0 || slot >= SLOTS) {
            return BAD_VALUE;
        }
        if (slots[slot] == null) {
            slots[slot] = new Model();
        }
        slots[slot].copyFrom(model);
        return model.length;
    }

    public int restore(int slot) {
        if (slot < 0 || slot >= SLOTS) {
            return BAD_VALUE;
        }
        if (slots[slot] == null) {
            return NOT_POSSIBLE;
        }
        remember();
        model.copyFrom(slots[slot]);
        return model.length;
    }

    /** Records the state before a change; the oldest one's arrays are used again for the newest. */
    private void remember() {
        if (remembered >= HISTORY) {
            Model oldest = history[0];
            for (int i = 1; i < HISTORY; i++) {
                history[i - 1] = history[i];
            }
            history[HISTORY - 1] = oldest;
            remembered = HISTORY - 1;
        }
        history[remembered].copyFrom(model);
        remembered++;
    }

    private static boolean isKind(int kind) {
        return kind == BEGIN || kind == STEP || kind == LETTER;
    }

    private static boolean isPart(int part) {
        return part == 0 || part == 1;
    }

    private static boolean isLoud(int coin) {
        return coin >= 0 && coin < LOUD;
    }

    private static boolean isCoin(int coin) {
        return coin >= 0 && coin < COINS;
    }

    /** The steps that have to be 0; without them no way can go round among silent coins. */
    private static boolean isBarred(int from, int to) {
        return from >= LOUD && to >= LOUD && from >= to;
    }

    /** Where a weight is held, or -1 if there is no such one. */
    private static int indexOf(int kind, int coin, int to) {
        if (kind == BEGIN) {
            return isCoin(coin) && to == 0 ? START * COINS + coin : -1;
        }
        if (kind == STEP) {
            return isCoin(coin) && isCoin(to) ? coin * COINS + to : -1;
        }
        return isLoud(coin) && to >= 0 && to < LETTERS ? FIRST_LETTER_WEIGHT + coin * LETTERS + to : -1;
    }

    private static long inLowestTerms(long upper, long lower, int part) {
        long common = commonDivisor(upper, lower);
        if (common == 0) {
            return part == 0 ? 0 : 1;
        }
        return (part == 0 ? upper : lower) / common;
    }

    private static long commonDivisor(long first, long second) {
        long greater = first;
        long smaller = second;
        // Euclid's steps for longs stay below 100
        for (int i = 0; i < 100 && smaller != 0; i++) {
            long rest = greater % smaller;
            greater = smaller;
            smaller = rest;
        }
        return greater;
    }

    /** The bits of a float that is above 0 and at most 1, and far above the smallest one of full precision. */
    private static int bitsOf(float share) {
        int exponent = 127;
        float head = share;
        while (head < 1.0f && exponent > 1) {
            head = head * 2.0f;
            exponent--;
        }
        int tail = (int) ((head - 1.0f) * 8388608.0f);
        return (exponent << 23) | tail;
    }

    /** What changes are made on: the weights and the row. */
    private static final class Model {
        final int[] weights = new int[WEIGHTS];
        final int[] row = new int[LONGEST_ROW];
        int length = 0;

        void copyFrom(Model other) {
            System.arraycopy(other.weights, 0, weights, 0, WEIGHTS);
            System.arraycopy(other.row, 0, row, 0, LONGEST_ROW);
            length = other.length;
        }

        boolean hasPlace(int place) {
            return place >= 0 && place < length;
        }

        void append(int sign) {
            if (length < LONGEST_ROW) {
                row[length] = sign;
                length++;
            }
        }

        int countWeights() {
            int number = 0;
            for (int i = 0; i < WEIGHTS; i++) {
                if (weights[i] != 0) {
                    number++;
                }
            }
            return number;
        }

        int stepWeight(int from, int to) {
            return weights[from * COINS + to];
        }

        int letterWeight(int coin, int sign) {
            return weights[FIRST_LETTER_WEIGHT + coin * LETTERS + sign];
        }

        /** The weight of a step, and of the next letter if the step leads to a loud coin. */
        int moveWeight(int from, int to, int told) {
            if (to >= LOUD) {
                return stepWeight(from, to);
            }
            return told < length ? stepWeight(from, to) * letterWeight(to, row[told]) : 0;
        }
    }

    /**
     * Sums over all ways, by how many letters are told and which coin was last (START if none was).
     * They are made anew for each call that asks, so that no change can leave them stale.
     */
    private static final class Sums {
        final long[][] before = new long[LONGEST_ROW + 1][COINS + 1];
        /** What beginnings weigh that step to a loud coin, which has not told its letter yet. */
        final long[][] reach = new long[LONGEST_ROW + 1][LOUD];
        final long[][] after = new long[LONGEST_ROW + 1][COINS + 1];
        final long[][] best = new long[LONGEST_ROW + 1][COINS + 1];
        final int[][] rests = new int[LONGEST_ROW + 1][COINS + 1];

        Sums() {
            before[0][START] = 1;
        }

        void measure(Model model) {
            sumBeginnings(model);
            sumRests(model);
        }

        long whole() {
            return after[0][START];
        }

        int number() {
            return rests[0][START];
        }

        long greatest() {
            return best[0][START];
        }

        /** What the ways weigh together in which the coin tells the letter at the place. */
        long through(int place, int coin) {
            return before[place + 1][coin] * after[place + 1][coin];
        }

        long ofStep(Model model, int from, int to) {
            long sum = 0;
            for (int told = 0; told < model.length; told++) {
                int then = to < LOUD ? told + 1 : told;
                sum += before[told][from] * model.moveWeight(from, to, told) * after[then][to];
            }
            return sum;
        }

        long ofLetter(Model model, int coin, int sign) {
            long sum = 0;
            for (int place = 0; place < model.length; place++) {
                if (model.row[place] == sign) {
                    sum += through(place, coin);
                }
            }
            return sum;
        }

        long wholeIfNext(Model model, int sign) {
            long sum = 0;
            for (int coin = 0; coin < LOUD; coin++) {
                sum += reach[model.length][coin] * model.letterWeight(coin, sign);
            }
            return sum;
        }

        long wholeIfChanged(Model model, int place, int sign) {
            long sum = 0;
            for (int coin = 0; coin < LOUD; coin++) {
                sum += reach[place][coin] * model.letterWeight(coin, sign) * after[place + 1][coin];
            }
            return sum;
        }

        private void sumBeginnings(Model model) {
            for (int told = 0; told <= model.length; told++) {
                // 4 ahead of 5, which can be stepped to from 4, and both ahead of the loud ones
                for (int to = LOUD; to < COINS; to++) {
                    before[told][to] = arrive(model, told, to);
                }
                for (int to = 0; to < LOUD; to++) {
                    reach[told][to] = arrive(model, told, to);
                    if (told < model.length) {
                        before[told + 1][to] = reach[told][to] * model.letterWeight(to, model.row[told]);
                    }
                }
            }
        }

        private long arrive(Model model, int told, int to) {
            long sum = 0;
            // what an earlier call left for a coin that is not summed yet is behind a barred step, which weighs 0
            for (int from = 0; from <= START; from++) {
                sum += before[told][from] * model.stepWeight(from, to);
            }
            return sum;
        }

        private void sumRests(Model model) {
            for (int coin = 0; coin <= START; coin++) {
                // a way ends with a loud coin; the way of an empty row ends where it starts
                boolean ends = coin < LOUD || coin == START && model.length == 0;
                after[model.length][coin] = ends ? 1 : 0;
                best[model.length][coin] = ends ? 1 : 0;
                rests[model.length][coin] = ends ? 1 : 0;
            }
            for (int told = model.length - 1; told >= 0; told--) {
                // 5 ahead of 4, which can step to 5, and both ahead of those that step to them
                for (int from = COINS - 1; from >= 0; from--) {
                    sumRestsBehind(model, told, from);
                }
                sumRestsBehind(model, told, START);
            }
        }

        private void sumRestsBehind(Model model, int told, int from) {
            long sum = 0;
            long most = 0;
            int ends = 0;
            for (int to = 0; to < COINS; to++) {
                int move = model.moveWeight(from, to, told);
                if (move > 0) {
                    int then = to < LOUD ? told + 1 : told;
                    sum += move * after[then][to];
                    most = Math.max(most, move * best[then][to]);
                    ends += rests[then][to];
                }
            }
            after[told][from] = sum;
            best[told][from] = most;
            rests[told][from] = ends;
        }
    }

    /** One way, found by its number or as the likeliest one, coin by coin. */
    private static final class Walk {
        final int[] coins = new int[LONGEST_WAY];
        int size = 0;
        long product = 1;
        /** How many ways there are ahead of the coin that was chosen, among those that begin alike. */
        private int skipped = 0;

        /** Goes the way of this number; the number has to be one of a way of the row. */
        void follow(Model model, Sums sums, int way) {
            size = 0;
            product = 1;
            int left = way;
            int from = START;
            int told = 0;
            while (told < model.length && size < LONGEST_WAY) {
                int to = chooseByNumber(model, sums, told, from, left);
                left -= skipped;
                product *= model.moveWeight(from, to, told);
                coins[size] = to;
                size++;
                told += to < LOUD ? 1 : 0;
                from = to;
            }
        }

        /** The number of the first way that weighs most; there has to be a way. */
        int findBest(Model model, Sums sums) {
            int way = 0;
            int from = START;
            int told = 0;
            for (int steps = 0; told < model.length && steps < LONGEST_WAY; steps++) {
                from = chooseBest(model, sums, told, from);
                way += skipped;
                told += from < LOUD ? 1 : 0;
            }
            return way;
        }

        int tell(int what) {
            if (what == -1) {
                return size;
            }
            return what >= 0 && what < size ? coins[what] : NONE;
        }

        private int chooseByNumber(Model model, Sums sums, int told, int from, int left) {
            skipped = 0;
            for (int to = 0; to < COINS - 1; to++) {
                int ends = restsThrough(model, sums, told, from, to);
                if (left < skipped + ends) {
                    return to;
                }
                skipped += ends;
            }
            return COINS - 1;
        }

        private int chooseBest(Model model, Sums sums, int told, int from) {
            skipped = 0;
            for (int to = 0; to < COINS - 1; to++) {
                int ends = restsThrough(model, sums, told, from, to);
                int then = to < LOUD ? told + 1 : told;
                long most = model.moveWeight(from, to, told) * sums.best[then][to];
                if (ends > 0 && most == sums.best[told][from]) {
                    return to;
                }
                skipped += ends;
            }
            return COINS - 1;
        }

        private static int restsThrough(Model model, Sums sums, int told, int from, int to) {
            int then = to < LOUD ? told + 1 : told;
            return model.moveWeight(from, to, told) > 0 ? sums.rests[then][to] : 0;
        }
    }

    /** Makes new weights from the expected numbers; their common lower number, the total, can be left out. */
    private static final class Trainer {
        private final long[] expectations = new long[WEIGHTS];

        int improve(Model model, Sums sums) {
            for (int from = 0; from <= START; from++) {
                for (int to = 0; to < COINS; to++) {
                    expectations[from * COINS + to] = sums.ofStep(model, from, to);
                }
            }
            for (int coin = 0; coin < LOUD; coin++) {
                for (int sign = 0; sign < LETTERS; sign++) {
                    expectations[FIRST_LETTER_WEIGHT + coin * LETTERS + sign] = sums.ofLetter(model, coin, sign);
                }
            }
            int different = 0;
            for (int from = 0; from <= START; from++) {
                different += improveGroup(model, from * COINS, COINS);
            }
            for (int coin = 0; coin < LOUD; coin++) {
                different += improveGroup(model, FIRST_LETTER_WEIGHT + coin * LETTERS, LETTERS);
            }
            return different;
        }

        private int improveGroup(Model model, int first, int size) {
            long greatest = 0;
            for (int i = first; i < first + size; i++) {
                greatest = Math.max(greatest, expectations[i]);
            }
            if (greatest == 0) {
                return 0;
            }
            int different = 0;
            for (int i = first; i < first + size; i++) {
                // half of the divisor is added ahead of the division, so that a half goes up
                int trained = (int) ((2 * TOP_WEIGHT * expectations[i] + greatest) / (2 * greatest));
                if (trained != model.weights[i]) {
                    model.weights[i] = trained;
                    different++;
                }
            }
            return different;
        }
    }

    /** The pad, and the reader of its text, which stops at the first fault. */
    private static final class Pad {
        private final char[] signs = new char[LONGEST_PAD];
        int length = 0;
        /** Where the reader stands; behind a text with a fault, the fault. */
        int at = 0;
        int parts = 0;

        /** How many characters a number gives, or -1 if it gives none in the right way. */
        static int countSigns(long characters) {
            long rest = characters;
            int number = 0;
            while (number < 8 && (rest & 255) != 0) {
                if ((rest & 255) < 33 || (rest & 255) > 126) {
                    return -1;
                }
                rest >>>= 8;
                number++;
            }
            return number > 0 && rest == 0 ? number : -1;
        }

        void append(long characters, int number) {
            for (int i = number - 1; i >= 0 && length < LONGEST_PAD; i--) {
                signs[length] = (char) ((characters >>> (8 * i)) & 255);
                length++;
            }
        }

        int clear() {
            int former = length;
            length = 0;
            return former;
        }

        /** Reads the text, and gives its weights and rows to a model if there is one; false if it has a fault. */
        boolean read(Model into) {
            at = 0;
            parts = 0;
            while (parts < LONGEST_PAD) {
                if (!readPart(into)) {
                    return false;
                }
                parts++;
                if (at >= length) {
                    return true;
                }
                if (!accept(';', ';')) {
                    return false;
                }
            }
            return false;
        }

        private boolean readPart(Model into) {
            if (accept('@', '@')) {
                return readBegin(into);
            }
            if (accept('!', '!')) {
                return readRow(into);
            }
            if (!accept('0', '5')) {
                return false;
            }
            int coin = latest() - '0';
            if (accept('>', '>')) {
                return readStep(into, coin);
            }
            return coin < LOUD && accept('=', '=') && readLetter(into, coin);
        }

        private boolean readBegin(Model into) {
            if (!accept('0', '5')) {
                return false;
            }
            return readWeight(into, START * COINS + latest() - '0', TOP_WEIGHT);
        }

        private boolean readStep(Model into, int coin) {
            if (!accept('0', '5')) {
                return false;
            }
            int to = latest() - '0';
            return readWeight(into, coin * COINS + to, isBarred(coin, to) ? 0 : TOP_WEIGHT);
        }

        private boolean readLetter(Model into, int coin) {
            if (!accept('a', 'd')) {
                return false;
            }
            return readWeight(into, FIRST_LETTER_WEIGHT + coin * LETTERS + latest() - 'a', TOP_WEIGHT);
        }

        private boolean readWeight(Model into, int index, int top) {
            if (!accept('0', '0' + top)) {
                return false;
            }
            if (into != null) {
                into.weights[index] = latest() - '0';
            }
            return true;
        }

        private boolean readRow(Model into) {
            if (into != null) {
                into.length = 0;
            }
            for (int told = 0; told < LONGEST_ROW && accept('a', 'd'); told++) {
                if (into != null) {
                    into.append(latest() - 'a');
                }
            }
            return true;
        }

        private boolean accept(int low, int high) {
            if (at >= length || signs[at] < low || signs[at] > high) {
                return false;
            }
            at++;
            return true;
        }

        private int latest() {
            return at > 0 ? signs[at - 1] : 0;
        }
    }
}
