import java.util.Arrays;

/**
 * Functions of at most 12 variables in 32 registers, each held as the row of its values.
 *
 * <p>The value at point p is bit p % 64 of word p / 64, so that most calls do 64 points at once. With fewer than 6
 * variables the one word has bits that are no point: they are 0 in every register, and every call keeps them so.
 */
public final class ForkDesk {
    public static final int NONE = -1;

    private static final int REGISTERS = 32;
    private static final int MOST_VARIABLES = 12;

    private static final int AND = 0;
    private static final int OR = 1;
    private static final int EITHER = 2;
    private static final int BUT_NOT = 3;

    private static final int WORD_SIZE = 64;
    /** A point's number has this many bits for its place in a word; the bits above them choose the word. */
    private static final int PLACE_BITS = 6;
    /** For each of those bits the places that have 1 there. */
    private static final long[] PLACES_WITH_BIT = {
        0xAAAAAAAAAAAAAAAAL, 0xCCCCCCCCCCCCCCCCL, 0xF0F0F0F0F0F0F0F0L,
        0xFF00FF00FF00FF00L, 0xFFFF0000FFFF0000L, 0xFFFFFFFF00000000L
    };

    private final int variables;
    private final int points;
    private final int words;
    private final int pointsInWord;
    /** A word that has 1 at each of its points. */
    private final long allOnes;
    private final long[][] registers;

    /** A new function is made here first, because the register it goes to may be one of those it is made of. */
    private final long[] draft;
    private final long[] reached;
    private final int[] tuples;
    private final ForkCounter forkCounter;

    public ForkDesk(int variables) {
        this.variables = Math.max(1, Math.min(MOST_VARIABLES, variables));
        points = 1 << this.variables;
        words = Math.max(1, points / WORD_SIZE);
        pointsInWord = Math.min(WORD_SIZE, points);
        allOnes = -1L >>> (WORD_SIZE - pointsInWord);
        registers = new long[REGISTERS][words];
        draft = new long[words];
        reached = new long[words];
        tuples = new int[pointsInWord];
        forkCounter = new ForkCounter(this.variables);
    }

    public boolean constant(int k, int value) {
        if (!isRegister(k) || !isValue(value)) {
            return false;
        }
        Arrays.fill(registers[k], value == 1 ? allOnes : 0L);
        return true;
    }

    public boolean variable(int k, int v) {
        if (!isRegister(k) || !isVariable(v)) {
            return false;
        }
        int bit = bitOf(v);
        for (int w = 0; w < words; w++) {
            registers[k][w] = pointsWithBit(w, bit);
        }
        return true;
    }

    public boolean combine(int k, int op, int a, int b) {
        if (!isRegister(k) || op < AND || op > BUT_NOT || !isRegister(a) || !isRegister(b)) {
            return false;
        }
        for (int w = 0; w < words; w++) {
            registers[k][w] = combined(op, registers[a][w], registers[b][w]);
        }
        return true;
    }

    public boolean choose(int k, int a, int b, int c) {
        if (!isRegister(k) || !isRegister(a) || !isRegister(b) || !isRegister(c)) {
            return false;
        }
        for (int w = 0; w < words; w++) {
            registers[k][w] = chosen(registers[a][w], registers[b][w], registers[c][w]);
        }
        return true;
    }

    public boolean fix(int k, int a, int v, int value) {
        if (!isRegister(k) || !isRegister(a) || !isVariable(v) || !isValue(value)) {
            return false;
        }
        int bit = bitOf(v);
        for (int w = 0; w < words; w++) {
            long here = registers[a][w];
            long across = acrossBit(registers[a], w, bit);
            long isOne = pointsWithBit(w, bit);
            draft[w] = value == 1 ? chosen(isOne, here, across) : chosen(isOne, across, here);
        }
        keepDraft(k);
        return true;
    }

    public boolean exists(int k, int a, int from, int to) {
        if (!isRegister(k) || !isRegister(a) || !isVariable(from) || !isVariable(to) || from > to) {
            return false;
        }
        System.arraycopy(registers[a], 0, draft, 0, words);
        for (int v = from; v <= to; v++) {
            spread(draft, bitOf(v));
        }
        keepDraft(k);
        return true;
    }

    public boolean substitute(int k, int a, int first) {
        if (!isRegister(k) || !isRegister(a) || !areRegisters(first, variables)) {
            return false;
        }
        for (int w = 0; w < words; w++) {
            readTuples(first, variables, w);
            long word = 0;
            for (int place = 0; place < pointsInWord; place++) {
                word |= (long) valueAt(registers[a], tuples[place]) << place;
            }
            draft[w] = word;
        }
        keepDraft(k);
        return true;
    }

    /**
     * Solves ever larger blocks of points, those alike in all bits from one up: a point whose own half of the block
     * has a point of c finds its nearest there, and any other has the same nearest as the point across that bit.
     */
    public boolean nearest(int k, int a, int c) {
        if (!isRegister(k) || !isRegister(a) || !isRegister(c)) {
            return false;
        }
        for (int w = 0; w < words; w++) {
            reached[w] = registers[c][w];
            draft[w] = registers[a][w] & registers[c][w];
        }
        for (int bit = 0; bit < variables; bit++) {
            // In place: the draft is 0 where nothing is reached, so what one half takes over never comes back to it.
            for (int w = 0; w < words; w++) {
                draft[w] |= acrossBit(draft, w, bit) & ~reached[w];
            }
            spread(reached, bit);
        }
        keepDraft(k);
        return true;
    }

    public boolean image(int k, int first, int m, int c) {
        if (!isRegister(k) || !isVariable(m) || !areRegisters(first, m) || !isRegister(c)) {
            return false;
        }
        int freeBits = variables - m;
        Arrays.fill(draft, 0L);
        for (int w = 0; w < words; w++) {
            if (registers[c][w] != 0) {
                readTuples(first, m, w);
                markTuples(registers[c][w], freeBits);
            }
        }
        for (int bit = 0; bit < freeBits; bit++) {
            spread(draft, bit);
        }
        keepDraft(k);
        return true;
    }

    public int forks(int k) {
        return isRegister(k) ? forkCounter.count(registers[k]) : NONE;
    }

    public int ones(int k) {
        if (!isRegister(k)) {
            return NONE;
        }
        int sum = 0;
        for (int w = 0; w < words; w++) {
            sum += Long.bitCount(registers[k][w]);
        }
        return sum;
    }

    public int least(int k) {
        if (!isRegister(k)) {
            return NONE;
        }
        for (int w = 0; w < words; w++) {
            long word = registers[k][w];
            if (word != 0) {
                return w * WORD_SIZE + lowestPlace(word);
            }
        }
        return NONE;
    }

    public int at(int k, int point) {
        if (!isRegister(k) || point < 0 || point >= points) {
            return NONE;
        }
        return valueAt(registers[k], point);
    }

    public boolean same(int a, int b) {
        if (!isRegister(a) || !isRegister(b)) {
            return false;
        }
        for (int w = 0; w < words; w++) {
            if (registers[a][w] != registers[b][w]) {
                return false;
            }
        }
        return true;
    }

    private static boolean isRegister(int k) {
        return k >= 0 && k < REGISTERS;
    }

    /** The count is at most MOST_VARIABLES; it is taken off the bound, since first + count could wrap around. */
    private static boolean areRegisters(int first, int count) {
        return first >= 0 && first <= REGISTERS - count;
    }

    private boolean isVariable(int v) {
        return v >= 1 && v <= variables;
    }

    private static boolean isValue(int value) {
        return value == 0 || value == 1;
    }

    private int bitOf(int v) {
        return variables - v;
    }

    private static int valueAt(long[] row, int point) {
        return (int) (row[point / WORD_SIZE] >>> (point % WORD_SIZE)) & 1;
    }

    private static int lowestPlace(long word) {
        return Long.bitCount((word & -word) - 1);
    }

    private static long combined(int op, long a, long b) {
        switch (op) {
            case AND:
                return a & b;
            case OR:
                return a | b;
            case EITHER:
                return a ^ b;
            default:
                return a & ~b;
        }
    }

    private static long chosen(long a, long b, long c) {
        return (a & b) | (~a & c);
    }

    private long pointsWithBit(int w, int bit) {
        if (bit < PLACE_BITS) {
            return PLACES_WITH_BIT[bit] & allOnes;
        }
        return ((w >>> (bit - PLACE_BITS)) & 1) == 1 ? allOnes : 0L;
    }

    /** Word w of the function that has at each point what the row has at the point that differs in this bit alone. */
    private static long acrossBit(long[] row, int w, int bit) {
        if (bit >= PLACE_BITS) {
            return row[w ^ (1 << (bit - PLACE_BITS))];
        }
        int distance = 1 << bit;
        long withBit = row[w] & PLACES_WITH_BIT[bit];
        long withoutBit = row[w] & ~PLACES_WITH_BIT[bit];
        return (withBit >>> distance) | (withoutBit << distance);
    }

    private void spread(long[] row, int bit) {
        for (int w = 0; w < words; w++) {
            row[w] |= acrossBit(row, w, bit);
        }
    }

    /** For each point of word w the values of the registers there, as one number, the first register's the highest. */
    private void readTuples(int first, int count, int w) {
        Arrays.fill(tuples, 0);
        for (int k = first; k < first + count; k++) {
            long word = registers[k][w];
            for (int place = 0; place < pointsInWord; place++) {
                tuples[place] = (tuples[place] << 1) | ((int) (word >>> place) & 1);
            }
        }
    }

    private void markTuples(long word, int freeBits) {
        for (int place = 0; place < pointsInWord; place++) {
            if (((word >>> place) & 1) == 1) {
                int point = tuples[place] << freeBits;
                draft[point / WORD_SIZE] |= 1L << (point % WORD_SIZE);
            }
        }
    }

    private void keepDraft(int k) {
        System.arraycopy(draft, 0, registers[k], 0, words);
    }

    /**
     * Counts forks from the last variable up. Fixing the variables before v cuts the row of values into blocks, whose
     * halves are the blocks of the next variable; so two blocks are equal if their halves are equal in kind.
     */
    private static final class ForkCounter {
        private final int variables;
        /** For each block the number of the first block that equals it; below the last variable, a point's value. */
        private final int[] kinds;
        /** For each block that is the first of its kind: its upper half, and the one before it with its lower half. */
        private final int[] upperHalf;
        private final int[] before;
        /** For each kind of lower half the latest block that is the first of its kind. */
        private final int[] latest;

        ForkCounter(int variables) {
            int mostBlocks = 1 << (variables - 1);
            this.variables = variables;
            kinds = new int[2 * mostBlocks];
            upperHalf = new int[mostBlocks];
            before = new int[mostBlocks];
            // With one variable there is one block, yet its half is of two kinds, 0 and 1.
            latest = new int[Math.max(2, mostBlocks)];
        }

        int count(long[] row) {
            for (int point = 0; point < kinds.length; point++) {
                kinds[point] = valueAt(row, point);
            }
            int sum = 0;
            for (int v = variables; v >= 1; v--) {
                sum += countLevel(1 << (v - 1));
            }
            return sum;
        }

        private int countLevel(int blocks) {
            int found = 0;
            Arrays.fill(latest, NONE);
            for (int block = 0; block < blocks; block++) {
                int lower = kinds[2 * block];
                int upper = kinds[2 * block + 1];
                int kind = kindOf(block, lower, upper);
                if (kind == block && lower != upper) {
                    found++;
                }
                kinds[block] = kind;
            }
            return found;
        }

        private int kindOf(int block, int lower, int upper) {
            int other = latest[lower];
            for (int left = block; left > 0 && other != NONE; left--) {
                if (upperHalf[other] == upper) {
                    return other;
                }
                other = before[other];
            }
            upperHalf[block] = upper;
            before[block] = latest[lower];
            latest[lower] = block;
            return block;
        }
    }
}
