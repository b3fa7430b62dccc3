/**
 * The sentences of "What it is" and "Terms" that name a boundary, each with a test of its own: the
 * sentence stands above its test.
 */
public final class TermsEdgesTest {
    private static final Checks CHECKS = new Checks();
    private static final int NONE = EncodingChecks.NONE;

    public static void main(String[] args) {
        fiveHundredAndTwelveCalls();
        laterCallsAreFree();
        wordsFromZeroToAllBits();
        bitsAreNumberedFromTheLowest();
        bitsOfTheMaskAreThoseOfTheValue();
        allConditionsHold();
        fieldCountsBothEnds();
        kind0IsV();
        kind1IsNotV();
        kind2IsBelowV();
        kind3IsAboveV();
        kind4IsAPowerUpToV();
        kind5IsNotBelowVAndEven();
        presentWithAllVariants();
        toldWithoutASetAlways();
        operandsAreFields();
        numberedFromZero();
        oneWithoutWordsLiesInEach();
        blocksWithNoBitToAllBitsFree();
        noBlockInAGreaterOne();
        blocksWithTheSameHigherBits();
        lowerWordsFirst();
        firstExceptionTold();
        noSuchEncodingFirst();
        none();
        CHECKS.end();
    }

    private static void same(String what, Object due, Object got) {
        CHECKS.same("Terms, " + what, due, got);
    }

    private static void thrown(String what, String exception, Checks.Call call) {
        CHECKS.throwsDue("Terms, " + what, exception, call);
    }

    private static EncodingChecks allWords(int bits) {
        EncodingChecks x = new EncodingChecks(bits);
        x.encoding(0L, 0L);
        return x;
    }

    // "An object is used for at most 512 calls after it has been made"
    private static void fiveHundredAndTwelveCalls() {
        EncodingChecks x = new EncodingChecks(16);
        int calls = 0;
        for (int e = 0; e < 40; e++) {
            x.encoding(0xFFL, e);
            calls++;
        }
        for (int c = 0; c < 160; c++) {
            x.condition(c / 4, 8, 15, 3, c % 4);
            calls++;
        }
        for (; calls < 508; calls++) {
            same("call " + calls + " of 512", 252, x.count(calls % 40));
        }
        same("the 509th call", 65536 - 40 * 252, x.gaps());
        thrown("the 510th call", Checks.UOE, () -> x.condition(39, 0, 0, 0, 0));
        same("the 511th call", 39, x.decode(0xFF27));
        same("the 512th call", 40, x.clear());
    }

    // "what later calls answer is free": but they end, and throw nothing that the machine throws
    private static void laterCallsAreFree() {
        EncodingChecks x = allWords(9);
        for (int call = 0; call < 6000; call++) {
            int k = call;
            String answer = String.valueOf(Checks.answer(() -> anyCall(x, k)));
            boolean due = !answer.endsWith("Exception") || answer.equals(Checks.IOOBE)
                    || answer.equals(Checks.IAE) || answer.equals(Checks.UOE);
            same("later call " + call, true, due);
        }
    }

    private static Object anyCall(EncodingChecks x, int k) {
        int e = k / 19 % 50 - 2;
        switch (k % 19) {
            case 0: return x.encoding(k % 600, k % 3);
            case 1: return x.condition(e, k % 7 - 1, k % 11, k % 8 - 1, k % 600);
            case 2: return x.operand(e, k % 7 - 1, k % 11);
            case 3: return x.needs(e, k % 300 - 5);
            case 4: return k % 100 == 4 ? x.clear() : x.size(0);
            case 5: return x.pairs();
            case 6: return x.pair(k - 9, k % 6 - 1);
            case 7: return x.alias(e, k % 45 - 1);
            case 8: return x.clashes(k % 300 - 5);
            case 9: return x.worst();
            case 10: return x.meaningless(e);
            case 11: return x.idle(e, k % 12 - 1);
            case 12: return x.count(e);
            case 13: return x.gaps();
            case 14: return x.blocks(e);
            case 15: return x.block(e, k % 20 - 1, k % 4 - 1);
            case 16: return x.decode(k % 600 - 20);
            case 17: return x.order(e);
            default: return x.size(e);
        }
    }

    // "as numbers they are 0 to 2 to the power W, less 1"
    private static void wordsFromZeroToAllBits() {
        for (int w = 1; w <= 16; w++) {
            EncodingChecks x = allWords(w);
            int words = 1 << w;
            same("the lowest word of " + w + " bits", 0, x.decode(0));
            same("the greatest word of " + w + " bits", 0, x.decode(words - 1));
            thrown("a word too small of " + w + " bits", Checks.IAE, () -> x.decode(-1));
            thrown("a word too great of " + w + " bits", Checks.IAE, () -> x.decode(words));
            same("all words of " + w + " bits", words, x.count(0));
        }
    }

    // "numbered from 0 (the lowest one)"
    private static void bitsAreNumberedFromTheLowest() {
        for (int w = 1; w <= 16; w++) {
            for (int bit = 0; bit < w; bit++) {
                EncodingChecks x = allWords(w);
                x.condition(0, bit, bit, 0, 1);
                same("lowest word with bit " + bit, 1 << bit, x.block(0, 0, 0));
                same("it is of the encoding", 0, x.decode(1 << bit));
                same("0 is not", NONE, x.decode(0));
                x.encoding(1L << bit, 1L << bit);
                same("the mask's bit is the field's", 1, x.alias(0, 1));
            }
        }
    }

    // "a word is one of ITS WORDS, if its bits of the mask are those of the value"
    private static void bitsOfTheMaskAreThoseOfTheValue() {
        for (int w = 1; w <= 16; w++) {
            int words = 1 << w;
            EncodingChecks x = new EncodingChecks(w);
            x.encoding(words - 1, words - 1);
            x.encoding(words - 1, 0L);
            x.encoding(0L, 0L);
            same("all bits in the mask", 1, x.count(0));
            same("with the greatest value", 0, x.decode(words - 1));
            same("all bits in the mask, none in the value", 1, x.count(1));
            same("with the lowest value", 1, x.decode(0));
            same("no bits in the mask", words, x.count(2));
        }
        EncodingChecks y = new EncodingChecks(3);
        y.encoding(0b101L, 0b001L);
        int[] due = {NONE, 0, NONE, 0, NONE, NONE, NONE, NONE};
        for (int word = 0; word < 8; word++) {
            same("two bits in the mask, word " + word, due[word], y.decode(word));
        }
    }

    // "and all conditions of the encoding hold"
    private static void allConditionsHold() {
        EncodingChecks x = new EncodingChecks(4);
        x.encoding(8L, 8L);
        x.condition(0, 0, 3, 3, 9);
        x.condition(0, 0, 0, 0, 1);
        x.condition(0, 0, 2, 1, 5);
        x.condition(0, 0, 3, 2, 15);
        same("only 11 is left", 1, x.count(0));
        same("it is 11", 11, x.block(0, 0, 0));
        EncodingChecks y = allWords(4);
        y.condition(0, 0, 3, 2, 8);
        y.condition(0, 0, 3, 3, 7);
        same("conditions that do not hold together", 0, y.count(0));
        EncodingChecks z = new EncodingChecks(4);
        z.encoding(1L, 1L);
        z.condition(0, 0, 0, 0, 0);
        same("a condition against the value", 0, z.count(0));
    }

    // "A CONDITION is of a FIELD, bits from to to (both counted)"
    private static void fieldCountsBothEnds() {
        for (int w = 1; w <= 16; w++) {
            for (int to = 0; to < w; to++) {
                for (int from = 0; from <= to; from++) {
                    EncodingChecks x = allWords(w);
                    int greatest = (1 << (to - from + 1)) - 1;
                    x.condition(0, from, to, 0, greatest);
                    same("words with all bits of a field", 1 << (w - (to - from + 1)), x.count(0));
                    same("the lowest of them", greatest << from, x.block(0, 0, 0));
                }
            }
        }
    }

    /** Which of f = 0 .. 15 a condition leaves, as a set of bits; the field is the whole word. */
    private static int left(int kind, int v) {
        EncodingChecks x = allWords(4);
        x.condition(0, 0, 3, kind, v);
        int set = 0;
        for (int f = 0; f < 16; f++) {
            set |= x.decode(f) == 0 ? 1 << f : 0;
        }
        return set;
    }

    // "0 f is v"
    private static void kind0IsV() {
        same("is 0", 1, left(0, 0));
        same("is the greatest f", 1 << 15, left(0, 15));
        same("is one too great", 0, left(0, 16));
        same("is v, not v's low bits", 0, left(0, 65535));
    }

    // "1 f is not v"
    private static void kind1IsNotV() {
        same("is not 0", 0xFFFE, left(1, 0));
        same("is not the greatest f", 0x7FFF, left(1, 15));
        same("is not one too great", 0xFFFF, left(1, 16));
        same("is not v, not v's low bits", 0xFFFF, left(1, 65535));
    }

    // "2 f is below v"
    private static void kind2IsBelowV() {
        same("below 0", 0, left(2, 0));
        same("below 1", 1, left(2, 1));
        same("below the greatest f", 0x7FFF, left(2, 15));
        same("below one too great", 0xFFFF, left(2, 16));
        same("below the greatest v", 0xFFFF, left(2, 65535));
    }

    // "3 f is above v"
    private static void kind3IsAboveV() {
        same("above 0", 0xFFFE, left(3, 0));
        same("above the one before the greatest f", 0x8000, left(3, 14));
        same("above the greatest f", 0, left(3, 15));
        same("above the greatest v", 0, left(3, 65535));
    }

    // "4 f is one of the powers of two up to v"
    private static void kind4IsAPowerUpToV() {
        same("no power up to 0", 0, left(4, 0));
        same("1 is a power, 0 is none", 1 << 1, left(4, 1));
        same("up to 2", 1 << 1 | 1 << 2, left(4, 2));
        same("up to 3", 1 << 1 | 1 << 2, left(4, 3));
        same("up to 7", 1 << 1 | 1 << 2 | 1 << 4, left(4, 7));
        same("up to 8", 1 << 1 | 1 << 2 | 1 << 4 | 1 << 8, left(4, 8));
        same("up to the greatest v", 1 << 1 | 1 << 2 | 1 << 4 | 1 << 8, left(4, 65535));
        EncodingChecks x = allWords(16);
        x.condition(0, 0, 15, 4, 32768);
        same("the greatest power", 0, x.decode(32768));
        same("all powers", 16, x.count(0));
        EncodingChecks y = allWords(16);
        y.condition(0, 0, 15, 4, 32767);
        same("one below the greatest power", NONE, y.decode(32768));
        same("all powers but it", 15, y.count(0));
    }

    // "5 f is not below v and even"
    private static void kind5IsNotBelowVAndEven() {
        same("not below 0", 0x5555, left(5, 0));
        same("not below 1", 0x5554, left(5, 1));
        same("not below 2", 0x5554, left(5, 2));
        same("not below the greatest even f", 1 << 14, left(5, 14));
        same("not below the greatest f", 0, left(5, 15));
        same("not below the greatest v", 0, left(5, 65535));
        EncodingChecks x = allWords(2);
        x.condition(0, 1, 1, 5, 0);
        same("the field is even, not the word", 0, x.decode(1));
        same("the field is odd", NONE, x.decode(2));
    }

    /** Words of two bits: 0 has the odd ones, 1 has those from 2 on; they clash. */
    private static EncodingChecks clashing() {
        EncodingChecks x = new EncodingChecks(2);
        x.encoding(1L, 1L);
        x.encoding(2L, 2L);
        return x;
    }

    // "it is PRESENT in a set of variants that has all of these"
    private static void presentWithAllVariants() {
        EncodingChecks x = clashing();
        same("needs none, no variants", 1, x.clashes(0));
        x.needs(0, 0b10000001);
        same("no variants", 0, x.clashes(0));
        same("the lowest alone", 0, x.clashes(1));
        same("the highest alone", 0, x.clashes(128));
        same("all others", 0, x.clashes(126));
        same("all of these", 1, x.clashes(129));
        same("more than these", 1, x.clashes(255));
        x.needs(0, 255);
        same("all but one", 0, x.clashes(254));
        same("all", 1, x.clashes(255));
    }

    // "(told without a set: always)"
    private static void toldWithoutASetAlways() {
        EncodingChecks x = clashing();
        x.needs(0, 255);
        x.needs(1, 1);
        same("pairs", 1, x.pairs());
        same("pair", 3, x.pair(0, 2));
        same("alias", 4, x.alias(0, 1));
        same("count", 2, x.count(0));
        same("gaps", 1, x.gaps());
        same("blocks", 1, x.blocks(NONE));
        same("decode", 0, x.decode(1));
        same("order", 0, x.order(0));
        same("size", 2, x.size(0));
    }

    // "OPERANDS are fields, too."
    private static void operandsAreFields() {
        for (int w = 1; w <= 16; w++) {
            int last = w - 1;
            EncodingChecks x = allWords(w);
            same("the lowest bit alone", 1, x.operand(0, 0, 0));
            same("both ends count", w - 1, x.operand(0, 0, last));
            EncodingChecks y = allWords(w);
            same("the highest bit alone", 1, y.operand(0, last, last));
        }
    }

    // "Encodings are numbered from 0."
    private static void numberedFromZero() {
        EncodingChecks x = new EncodingChecks(6);
        for (int e = 0; e < 40; e++) {
            same("number", e, x.encoding(63L, e));
            same("its word", e, x.decode(e));
        }
    }

    // "one LIES IN the other, if all of its words are of the other, too (also one without words)"
    private static void oneWithoutWordsLiesInEach() {
        EncodingChecks x = new EncodingChecks(3);
        x.encoding(7L, 5L);
        x.encoding(0L, 0L);
        x.condition(1, 0, 0, 0, 2);
        x.encoding(0L, 0L);
        x.condition(2, 0, 2, 2, 0);
        same("it stands before all with words", 1, x.order(0));
        same("two without words lie in one another", 2, x.order(1));
        same("the one with a word is last", 0, x.order(2));
        same("and clashes with none", 0, x.clashes(255));
        same("itself in itself: all of its words", 1, x.alias(0, 0));
    }

    // "with n bits from 0 on free .. (n is 0 .. W; for W all words)"
    private static void blocksWithNoBitToAllBitsFree() {
        for (int w = 1; w <= 16; w++) {
            for (int n = 0; n <= w; n++) {
                int all = (1 << w) - 1;
                int fixed = all & ~((1 << n) - 1);
                EncodingChecks x = new EncodingChecks(w);
                x.encoding(fixed, fixed);
                same("one block", 1, x.blocks(0));
                same("its lowest word", fixed, x.block(0, 0, 0));
                same("its free bits", n, x.block(0, 0, 1));
                same("blocks of the rest", w - n, x.blocks(NONE));
                for (int k = 0; k < w - n; k++) {
                    same("free bits of the rest's block " + k, w - 1 - k, x.block(NONE, k, 1));
                }
            }
        }
    }

    // "none of which is in a greater one that is all in the set"
    private static void noBlockInAGreaterOne() {
        for (int w = 2; w <= 16; w++) {
            EncodingChecks x = new EncodingChecks(w);
            long high = 1L << (w - 1);
            x.encoding(high, 0L);
            same("the lower half", 1, x.blocks(0));
            same("the upper half is left", 1, x.blocks(NONE));
            x.encoding(high | 1L, high | 1L);
            x.encoding(high | 1L, high);
            same("nothing is left", 0, x.blocks(NONE));
            x.clear();
            x.encoding(1L, 0L);
            same("no two words beside one another", 1 << (w - 1), x.blocks(0));
            same("nor in the rest", 1 << (w - 1), x.blocks(NONE));
        }
    }

    // "all words with the same higher bits": 1 and 2, or 2 to 5, do not make a block
    private static void blocksWithTheSameHigherBits() {
        EncodingChecks x = allWords(3);
        x.condition(0, 0, 2, 3, 0);
        x.condition(0, 0, 2, 2, 3);
        same("1 and 2 are two blocks", 2, x.blocks(0));
        EncodingChecks y = allWords(3);
        y.condition(0, 0, 2, 3, 1);
        y.condition(0, 0, 2, 2, 6);
        same("2 to 5 are two blocks", 2, y.blocks(0));
        same("2 and 3", 1, y.block(0, 0, 1));
        same("4 and 5", 4, y.block(0, 1, 0));
        for (int w = 8; w <= 16; w++) {
            int quarter = 1 << (w - 2);
            EncodingChecks z = allWords(w);
            z.condition(0, 0, w - 1, 3, quarter - 1);
            z.condition(0, 0, w - 1, 2, 3 * quarter);
            same("the middle half is two blocks", 2, z.blocks(0));
            same("of a quarter each", w - 2, z.block(0, 1, 1));
            same("the quarters at the ends are two", 2, z.blocks(NONE));
        }
    }

    // "the set's BLOCKS, lower words first"
    private static void lowerWordsFirst() {
        EncodingChecks x = allWords(16);
        x.condition(0, 0, 15, 1, 0);
        same("all but one word", 16, x.blocks(0));
        for (int k = 0; k < 16; k++) {
            same("a lower word, and a smaller block, first", 1 << k, x.block(0, k, 0));
            same("its free bits", k, x.block(0, k, 1));
        }
        EncodingChecks y = allWords(16);
        y.condition(0, 0, 15, 1, 65535);
        for (int k = 0; k < 16; k++) {
            same("a lower word, and a greater block, first", 65536 - (65536 >> k), y.block(0, k, 0));
            same("its free bits", 15 - k, y.block(0, k, 1));
        }
    }

    // "Of several exceptions the first one told is thrown."
    private static void firstExceptionTold() {
        EncodingChecks x = new EncodingChecks(4);
        for (int e = 0; e < 40; e++) {
            x.encoding(0L, 0L);
        }
        for (int c = 0; c < 4; c++) {
            x.condition(7, 0, 0, 2, 2);
        }
        thrown("2: wrong mask, and forty", Checks.IAE, () -> x.encoding(16L, 0L));
        thrown("2: wrong value, and forty", Checks.IAE, () -> x.encoding(1L, 2L));
        thrown("2: forty alone", Checks.UOE, () -> x.encoding(1L, 1L));
        thrown("3: wrong field, and four", Checks.IAE, () -> x.condition(7, 0, 4, 0, 0));
        thrown("3: wrong kind, and four", Checks.IAE, () -> x.condition(7, 0, 0, 6, 0));
        thrown("3: wrong v, and four", Checks.IAE, () -> x.condition(7, 0, 0, 0, 65536));
        thrown("3: four alone", Checks.UOE, () -> x.condition(7, 0, 0, 0, 0));
        thrown("8: wrong pair and which", Checks.IOOBE, () -> x.pair(-1, 9));
        thrown("17: wrong block and what", Checks.IAE, () -> x.block(0, -1, 9));
    }

    // "For all calls with an encoding: IndexOutOfBoundsException (first), when there is no such encoding."
    private static void noSuchEncodingFirst() {
        EncodingChecks full = new EncodingChecks(4);
        for (int e = 0; e < 40; e++) {
            full.encoding(15L, e % 16);
        }
        EncodingChecks cleared = allWords(4);
        cleared.clear();
        refusesAll(new EncodingChecks(4), 0, 1, -2, 39, 40, Integer.MAX_VALUE, Integer.MIN_VALUE);
        refusesAll(allWords(4), 1, -2, 39, 40, Integer.MAX_VALUE, Integer.MIN_VALUE);
        refusesAll(full, 40, 41, 64, -2, -40, Integer.MAX_VALUE, Integer.MIN_VALUE);
        refusesAll(cleared, 0, -2, 39, 40);
        for (EncodingChecks x : new EncodingChecks[] {new EncodingChecks(4), full, cleared}) {
            refusesNoneToo(x, NONE);
        }
    }

    private static void refusesAll(EncodingChecks x, int... wrong) {
        for (int e : wrong) {
            refusesNoneToo(x, e);
            thrown("16: encoding " + e, Checks.IOOBE, () -> x.blocks(e));
            thrown("17: encoding " + e, Checks.IOOBE, () -> x.block(e, 0, 0));
            thrown("17: encoding " + e + ", all wrong", Checks.IOOBE, () -> x.block(e, -1, 2));
        }
    }

    private static void refusesNoneToo(EncodingChecks x, int e) {
        thrown("3: encoding " + e, Checks.IOOBE, () -> x.condition(e, 0, 0, 0, 0));
        thrown("3: encoding " + e + ", all wrong", Checks.IOOBE, () -> x.condition(e, 5, 4, 6, -1));
        thrown("4: encoding " + e, Checks.IOOBE, () -> x.operand(e, 0, 0));
        thrown("4: encoding " + e + ", all wrong", Checks.IOOBE, () -> x.operand(e, -1, 4));
        thrown("5: encoding " + e, Checks.IOOBE, () -> x.needs(e, 0));
        thrown("5: encoding " + e + ", all wrong", Checks.IOOBE, () -> x.needs(e, 256));
        thrown("9: first encoding " + e, Checks.IOOBE, () -> x.alias(e, 0));
        thrown("9: second encoding " + e, Checks.IOOBE, () -> x.alias(0, e));
        thrown("12: encoding " + e, Checks.IOOBE, () -> x.meaningless(e));
        thrown("13: encoding " + e, Checks.IOOBE, () -> x.idle(e, 0));
        thrown("13: encoding " + e + ", all wrong", Checks.IOOBE, () -> x.idle(e, -1));
        thrown("14: encoding " + e, Checks.IOOBE, () -> x.count(e));
    }

    // "`NONE = -1`: Nothing there."
    private static void none() {
        same("NONE", -1, EncodingChecks.NONE);
    }
}
