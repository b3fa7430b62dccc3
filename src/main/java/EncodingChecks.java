/**
 * Encodings of instructions as fixed and free bits with conditions: which have a word in common,
 * which lie in one another, what no encoding has, which bits mean nothing, how many words there are.
 */
public final class EncodingChecks {
    public static final int NONE = -1;

    private static final int MOST_BITS = 16;
    private static final int MOST_ENCODINGS = 40;
    private static final int MOST_CONDITIONS = 4;
    private static final int MOST_V = 65535;
    private static final int VARIANT_SETS = 256;

    private final int wordBits;
    private final Encoding[] encodings;
    private int used;

    // How many words two encodings have in common, and on the diagonal how many one has: every
    // question about pairs follows from these, so they are kept instead of being counted per call.
    private final int[][] shared;

    private final WordSet uncovered;
    private boolean uncoveredKnown;

    // A row for order(), made once so that the call makes nothing.
    private final long[] smallerOnes;

    public EncodingChecks(int bits) {
        wordBits = 1 + Math.floorMod(bits - 1, MOST_BITS);
        encodings = new Encoding[MOST_ENCODINGS];
        for (int e = 0; e < encodings.length; e++) {
            encodings[e] = new Encoding(wordBits);
        }
        used = 0;
        shared = new int[MOST_ENCODINGS][MOST_ENCODINGS];
        uncovered = new WordSet(wordBits);
        uncoveredKnown = false;
        smallerOnes = new long[MOST_ENCODINGS];
    }

    public int encoding(long mask, long value) throws IllegalArgumentException, UnsupportedOperationException {
        long allBits = (1L << wordBits) - 1;
        if ((mask & ~allBits) != 0 || (value & ~mask) != 0) {
            throw new IllegalArgumentException("bits outside the word or the mask");
        }
        if (used >= MOST_ENCODINGS) {
            throw new UnsupportedOperationException("no room for an encoding");
        }
        int made = used;
        used++;
        encodings[made].begin((int) mask, (int) value);
        wordsChanged(made);
        return made;
    }

    public boolean condition(int encoding, int from, int to, int kind, int v)
            throws IndexOutOfBoundsException, IllegalArgumentException, UnsupportedOperationException {
        requireEncoding(encoding);
        requireField(from, to);
        if (kind < 0 || kind > Encoding.LAST_KIND || v < 0 || v > MOST_V) {
            throw new IllegalArgumentException("no such condition");
        }
        Encoding it = encodings[encoding];
        if (it.conditions >= MOST_CONDITIONS) {
            throw new UnsupportedOperationException("no room for a condition");
        }
        it.conditions++;
        it.conditionBits |= fieldBits(from, to);
        boolean takesAway = it.words.keepOnly(from, to, kind, v);
        if (takesAway) {
            wordsChanged(encoding);
        }
        return takesAway;
    }

    public int operand(int encoding, int from, int to) throws IndexOutOfBoundsException, IllegalArgumentException {
        requireEncoding(encoding);
        requireField(from, to);
        Encoding it = encodings[encoding];
        int added = fieldBits(from, to) & ~it.operandBits;
        it.operandBits |= added;
        return Integer.bitCount(added);
    }

    public int needs(int encoding, int variants) throws IndexOutOfBoundsException, IllegalArgumentException {
        requireEncoding(encoding);
        requireVariants(variants);
        int before = encodings[encoding].needed;
        encodings[encoding].needed = variants;
        return before;
    }

    public int clear() {
        int before = used;
        used = 0;
        uncoveredKnown = false;
        return before;
    }

    public int pairs() {
        int found = 0;
        for (int a = 0; a < used; a++) {
            for (int b = a + 1; b < used; b++) {
                if (shared[a][b] > 0) {
                    found++;
                }
            }
        }
        return found;
    }

    public int pair(int k, int which) throws IndexOutOfBoundsException {
        if (k < 0 || which < 0 || which > 3) {
            throw new IndexOutOfBoundsException("no such pair or which");
        }
        int left = k;
        for (int a = 0; a < used; a++) {
            for (int b = a + 1; b < used; b++) {
                if (shared[a][b] > 0) {
                    if (left == 0) {
                        return ofPair(a, b, which);
                    }
                    left--;
                }
            }
        }
        throw new IndexOutOfBoundsException("no such pair");
    }

    public int alias(int a, int b) throws IndexOutOfBoundsException {
        requireEncoding(a);
        requireEncoding(b);
        if (shared[a][b] == 0) {
            return 0;
        }
        if (liesIn(a, b)) {
            return liesIn(b, a) ? 1 : 2;
        }
        return liesIn(b, a) ? 3 : 4;
    }

    public int clashes(int variants) throws IllegalArgumentException {
        requireVariants(variants);
        int found = 0;
        for (int a = 0; a < used; a++) {
            for (int b = a + 1; b < used; b++) {
                if ((neededByBoth(a, b) & ~variants) == 0 && clash(a, b)) {
                    found++;
                }
            }
        }
        return found;
    }

    // All pairs that clash do so in a set that has what each of them needs, and in no other set do
    // as many: the lowest such set has these variants alone.
    public int worst() {
        int needed = 0;
        for (int a = 0; a < used; a++) {
            for (int b = a + 1; b < used; b++) {
                if (clash(a, b)) {
                    needed |= neededByBoth(a, b);
                }
            }
        }
        return needed;
    }

    public int meaningless(int encoding) throws IndexOutOfBoundsException {
        requireEncoding(encoding);
        return Integer.bitCount(idleBits(encoding));
    }

    public int idle(int encoding, int k) throws IndexOutOfBoundsException, IllegalArgumentException {
        requireEncoding(encoding);
        int bits = idleBits(encoding);
        if (k < 0 || k >= Integer.bitCount(bits)) {
            throw new IllegalArgumentException("no such bit");
        }
        return WordSet.placeOfBit(bits, k);
    }

    public int count(int encoding) throws IndexOutOfBoundsException {
        requireEncoding(encoding);
        return shared[encoding][encoding];
    }

    public int gaps() {
        WordSet none = wordsOfNone();
        return none.howManyCommon(none);
    }

    public int blocks(int encoding) throws IndexOutOfBoundsException {
        return wordsOrNone(encoding).howManyBlocks();
    }

    public int block(int encoding, int k, int what) throws IndexOutOfBoundsException, IllegalArgumentException {
        WordSet words = wordsOrNone(encoding);
        if (k < 0 || what < 0 || what > 1) {
            throw new IllegalArgumentException("no such block or what");
        }
        int lowest = words.lowestOfBlock(k);
        if (lowest == NONE) {
            throw new IllegalArgumentException("no such block");
        }
        return what == 0 ? lowest : words.freeBitsOfBlock(lowest);
    }

    public int decode(int word) throws IllegalArgumentException {
        if (word < 0 || word >= 1 << wordBits) {
            throw new IllegalArgumentException("no such word");
        }
        int lowest = NONE;
        for (int e = 0; e < used; e++) {
            if (encodings[e].words.has(word)) {
                if (liesInAllWith(e, word)) {
                    return e;
                }
                if (lowest == NONE) {
                    lowest = e;
                }
            }
        }
        return lowest;
    }

    public int order(int k) throws IndexOutOfBoundsException {
        if (k < 0 || k >= used) {
            throw new IndexOutOfBoundsException("no such place");
        }
        for (int e = 0; e < used; e++) {
            smallerOnes[e] = setOfSmaller(e);
        }
        long placed = 0;
        int next = NONE;
        for (int place = 0; place <= k; place++) {
            next = nextInOrder(placed);
            placed |= 1L << next;
        }
        return next;
    }

    public int size(int what) {
        if (what == 0) {
            return used;
        }
        return what == 1 ? wordBits : NONE;
    }

    private void requireEncoding(int encoding) {
        if (encoding < 0 || encoding >= used) {
            throw new IndexOutOfBoundsException("no such encoding");
        }
    }

    private void requireField(int from, int to) {
        if (from < 0 || to < from || to >= wordBits) {
            throw new IllegalArgumentException("no such field");
        }
    }

    private void requireVariants(int variants) {
        if (variants < 0 || variants >= VARIANT_SETS) {
            throw new IllegalArgumentException("no such variants");
        }
    }

    private static int fieldBits(int from, int to) {
        return ((2 << (to - from)) - 1) << from;
    }

    private void wordsChanged(int encoding) {
        uncoveredKnown = false;
        WordSet words = encodings[encoding].words;
        for (int other = 0; other < used; other++) {
            int common = words.howManyCommon(encodings[other].words);
            shared[encoding][other] = common;
            shared[other][encoding] = common;
        }
    }

    private boolean liesIn(int a, int b) {
        return shared[a][b] == shared[a][a];
    }

    private boolean clash(int a, int b) {
        return shared[a][b] > 0 && !liesIn(a, b) && !liesIn(b, a);
    }

    private int neededByBoth(int a, int b) {
        return encodings[a].needed | encodings[b].needed;
    }

    private int ofPair(int a, int b, int which) {
        switch (which) {
            case 0:
                return a;
            case 1:
                return b;
            case 2:
                return encodings[a].words.lowestCommon(encodings[b].words);
            default:
                return shared[a][b];
        }
    }

    private int idleBits(int encoding) {
        Encoding it = encodings[encoding];
        int allBits = (1 << wordBits) - 1;
        return allBits & ~(it.fixedBits | it.conditionBits | it.operandBits);
    }

    private WordSet wordsOfNone() {
        if (!uncoveredKnown) {
            uncovered.setToFixed(0, 0);
            for (int e = 0; e < used; e++) {
                uncovered.takeOut(encodings[e].words);
            }
            uncoveredKnown = true;
        }
        return uncovered;
    }

    private WordSet wordsOrNone(int encoding) {
        if (encoding == NONE) {
            return wordsOfNone();
        }
        requireEncoding(encoding);
        return encodings[encoding].words;
    }

    private boolean liesInAllWith(int encoding, int word) {
        for (int other = 0; other < used; other++) {
            if (encodings[other].words.has(word) && !liesIn(encoding, other)) {
                return false;
            }
        }
        return true;
    }

    private long setOfSmaller(int encoding) {
        long smaller = 0;
        for (int other = 0; other < used; other++) {
            if (liesIn(other, encoding) && !liesIn(encoding, other)) {
                smaller |= 1L << other;
            }
        }
        return smaller;
    }

    private int nextInOrder(long placed) {
        for (int e = 0; e < used; e++) {
            boolean stands = (placed & (1L << e)) != 0;
            if (!stands && (smallerOnes[e] & ~placed) == 0) {
                return e;
            }
        }
        return NONE;
    }

    /** One encoding's place; it is used again after clear(), so begin() sets everything. */
    private static final class Encoding {
        static final int LAST_KIND = 5;

        final WordSet words;
        int fixedBits;
        int conditionBits;
        int operandBits;
        int conditions;
        int needed;

        Encoding(int wordBits) {
            words = new WordSet(wordBits);
        }

        void begin(int mask, int value) {
            words.setToFixed(mask, value);
            fixedBits = mask;
            conditionBits = 0;
            operandBits = 0;
            conditions = 0;
            needed = 0;
        }

        static boolean holds(int f, int kind, int v) {
            switch (kind) {
                case 0:
                    return f == v;
                case 1:
                    return f != v;
                case 2:
                    return f < v;
                case 3:
                    return f > v;
                case 4:
                    return f <= v && Integer.bitCount(f) == 1;
                default:
                    return f >= v && (f & 1) == 0;
            }
        }
    }

    /** A set of words as a row of chunks, a bit for each word, 64 words in a chunk. */
    private static final class WordSet {
        private static final int CHUNK_BITS = 6;
        private static final int CHUNK_WORDS = 64;
        private static final long FULL = -1L;

        // The words at which blocks of 2, 4, 8, 16, 32 and 64 words may begin.
        private static final long[] BLOCK_PLACES = {
            0x5555555555555555L, 0x1111111111111111L, 0x0101010101010101L,
            0x0001000100010001L, 0x0000000100000001L, 0x0000000000000001L
        };

        private final int wordBits;

        // Empty until the set is used: most objects use few of their forty encodings.
        private long[] row;

        WordSet(int wordBits) {
            this.wordBits = wordBits;
            row = new long[0];
        }

        void setToFixed(int mask, int value) {
            if (row.length == 0) {
                row = new long[1 << Math.max(0, wordBits - CHUNK_BITS)];
            }
            long low = lowWords(mask & (CHUNK_WORDS - 1), value & (CHUNK_WORDS - 1));
            int highMask = mask >> CHUNK_BITS;
            int highValue = value >> CHUNK_BITS;
            for (int c = 0; c < row.length; c++) {
                row[c] = (c & highMask) == highValue ? low : 0;
            }
        }

        private long lowWords(int mask, int value) {
            long low = 0;
            int places = 1 << Math.min(CHUNK_BITS, wordBits);
            for (int place = 0; place < places; place++) {
                if ((place & mask) == value) {
                    low |= 1L << place;
                }
            }
            return low;
        }

        /** Keeps the words for which a condition holds: whether there were others. */
        boolean keepOnly(int from, int to, int kind, int v) {
            boolean takesAway = false;
            for (int c = 0; c < row.length; c++) {
                long kept = row[c] == 0 ? 0 : keptOfChunk(c, from, to, kind, v);
                takesAway |= kept != row[c];
                row[c] = kept;
            }
            return takesAway;
        }

        private long keptOfChunk(int c, int from, int to, int kind, int v) {
            int fieldMask = (2 << (to - from)) - 1;
            long kept = row[c];
            for (int place = 0; place < CHUNK_WORDS; place++) {
                int f = ((c * CHUNK_WORDS + place) >> from) & fieldMask;
                if ((kept & (1L << place)) != 0 && !Encoding.holds(f, kind, v)) {
                    kept ^= 1L << place;
                }
            }
            return kept;
        }

        void takeOut(WordSet other) {
            for (int c = 0; c < row.length && c < other.row.length; c++) {
                row[c] &= ~other.row[c];
            }
        }

        boolean has(int word) {
            int c = word >> CHUNK_BITS;
            return c >= 0 && c < row.length && (row[c] & (1L << word)) != 0;
        }

        int howManyCommon(WordSet other) {
            int common = 0;
            for (int c = 0; c < row.length && c < other.row.length; c++) {
                common += Long.bitCount(row[c] & other.row[c]);
            }
            return common;
        }

        int lowestCommon(WordSet other) {
            for (int c = 0; c < row.length && c < other.row.length; c++) {
                long common = row[c] & other.row[c];
                if (common != 0) {
                    return c * CHUNK_WORDS + Long.numberOfTrailingZeros(common);
                }
            }
            return NONE;
        }

        int howManyBlocks() {
            int found = 0;
            int next = 0;
            for (int c = 0; c < row.length; c++) {
                if (c == next) {
                    found += Long.bitCount(blockStarts(row[c]));
                    next += chunksToNext(c);
                }
            }
            return found;
        }

        /** The lowest word of the k-th block, NONE when there are fewer. */
        int lowestOfBlock(int k) {
            int left = k;
            int next = 0;
            for (int c = 0; c < row.length; c++) {
                if (c == next) {
                    long starts = blockStarts(row[c]);
                    int here = Long.bitCount(starts);
                    if (left < here) {
                        return c * CHUNK_WORDS + placeOfBit(starts, left);
                    }
                    left -= here;
                    next += chunksToNext(c);
                }
            }
            return NONE;
        }

        int freeBitsOfBlock(int lowest) {
            int c = lowest >> CHUNK_BITS;
            if (c < 0 || c >= row.length) {
                return NONE;
            }
            if (row[c] == FULL) {
                return CHUNK_BITS + Integer.numberOfTrailingZeros(chunksToNext(c));
            }
            int place = lowest & (CHUNK_WORDS - 1);
            int free = 0;
            for (int n = 1; n < CHUNK_BITS; n++) {
                long wanted = (1L << (1 << n)) - 1;
                boolean mayBegin = (BLOCK_PLACES[n - 1] & (1L << place)) != 0;
                if (mayBegin && ((row[c] >>> place) & wanted) == wanted) {
                    free = n;
                }
            }
            return free;
        }

        // From a full chunk on, where no block stands open, a block of whole chunks begins: its
        // chunks. They are passed over as one, so that the block is counted once.
        private int chunksToNext(int c) {
            if (c < 0 || c >= row.length || row[c] != FULL) {
                return 1;
            }
            int chunks = 1;
            for (int n = CHUNK_BITS; n < wordBits; n++) {
                if ((c & (2 * chunks - 1)) != 0 || !allFull(c + chunks, chunks)) {
                    break;
                }
                chunks *= 2;
            }
            return chunks;
        }

        private boolean allFull(int first, int chunks) {
            if (first < 0 || first + chunks > row.length) {
                return false;
            }
            for (int c = first; c < first + chunks; c++) {
                if (row[c] != FULL) {
                    return false;
                }
            }
            return true;
        }

        /** The lowest words of a chunk's blocks, as if there were no other chunk. */
        private static long blockStarts(long chunk) {
            long starts = 0;
            long whole = chunk;
            int half = 1;
            for (long places : BLOCK_PLACES) {
                long doubled = whole & (whole >>> half) & places;
                starts |= whole & ~(doubled | (doubled << half));
                whole = doubled;
                half *= 2;
            }
            return starts | whole;
        }

        /** The place of the k-th bit that is set, NONE when there are fewer. */
        static int placeOfBit(long bits, int k) {
            int left = k;
            for (int place = 0; place < CHUNK_WORDS; place++) {
                if ((bits & (1L << place)) != 0) {
                    if (left == 0) {
                        return place;
                    }
                    left--;
                }
            }
            return NONE;
        }
    }
}
