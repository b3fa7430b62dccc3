/**
 * The sentences of promises 1 to 20 that name a boundary (too small, too large, empty, full, a
 * wrap-around, a refused call), each with a test of its own: the sentence stands above its test.
 * For each way to be refused it is looked at whether all answers after it are those of an object
 * without that call (but for the 41st encoding, which has a shorter look of its own).
 */
public final class PromiseEdgesTest {
    private static final Checks CHECKS = new Checks();
    private static final int NONE = EncodingChecks.NONE;
    private static final int LEAST = Integer.MIN_VALUE;
    private static final int MOST = Integer.MAX_VALUE;

    /** A call that is to be refused. */
    private interface Refused {
        Object on(EncodingChecks x);
    }

    public static void main(String[] args) {
        noSuchEncoding();
        making();
        conditions();
        operandsNeedsAndClear();
        pairsOfEncodings();
        clashesOfVariants();
        bitsAndWords();
        blocksOfWords();
        decodeOrderAndSize();
        CHECKS.end();
    }

    private static void same(String what, Object due, Object got) {
        CHECKS.same("Promise " + what, due, got);
    }

    private static void thrown(String what, String exception, Checks.Call call) {
        CHECKS.throwsDue("Promise " + what, exception, call);
    }

    /**
     * Words of four bits: 0 has 8 to 15, 1 has 12 to 15, 2 the odd ones, 3 has none, 4 has 12 to 15,
     * too. 1 has four conditions; there are operands and needs as well.
     */
    private static EncodingChecks five() {
        EncodingChecks x = new EncodingChecks(4);
        x.encoding(8L, 8L);
        x.encoding(12L, 12L);
        x.encoding(1L, 1L);
        x.encoding(0L, 0L);
        x.encoding(12L, 12L);
        x.condition(3, 0, 3, 2, 0);
        for (int c = 0; c < 4; c++) {
            x.condition(1, 0, 0, 2, 2);
        }
        x.operand(0, 1, 3);
        x.needs(2, 5);
        x.needs(0, 1);
        return x;
    }

    private static void refused(String what, String exception, Refused call) {
        EncodingChecks x = five();
        thrown(what, exception, () -> call.on(x));
        same(what + " changes nothing", Everything.of(five()), Everything.of(x));
    }

    private static void iae(String what, Refused call) {
        refused(what, Checks.IAE, call);
    }

    private static void ioobe(String what, Refused call) {
        refused(what, Checks.IOOBE, call);
    }

    private static EncodingChecks allWords(int bits) {
        EncodingChecks x = new EncodingChecks(bits);
        x.encoding(0L, 0L);
        return x;
    }

    private static EncodingChecks withoutWords(int bits) {
        EncodingChecks x = allWords(bits);
        x.condition(0, 0, 0, 2, 0);
        return x;
    }

    /** As many encodings as there may be, each with all words. */
    private static EncodingChecks forty(int bits) {
        EncodingChecks x = new EncodingChecks(bits);
        for (int e = 0; e < 40; e++) {
            x.encoding(0L, 0L);
        }
        return x;
    }

    // "For all calls with an encoding: IndexOutOfBoundsException (first), when there is no such encoding."
    private static void noSuchEncoding() {
        for (int e : new int[] {5, 6, 39, 40, -2, LEAST, MOST}) {
            noSuchEncoding(e);
            ioobe("16: blocks of " + e, x -> x.blocks(e));
            ioobe("17: block of " + e, x -> x.block(e, 0, 0));
        }
        noSuchEncoding(NONE);
    }

    private static void noSuchEncoding(int e) {
        ioobe("3: condition of " + e, x -> x.condition(e, 0, 3, 2, 0));
        ioobe("4: operand of " + e, x -> x.operand(e, 0, 3));
        ioobe("5: needs of " + e, x -> x.needs(e, 255));
        ioobe("9: alias of 0 and " + e, x -> x.alias(0, e));
        ioobe("9: alias of " + e + " and 0", x -> x.alias(e, 0));
        ioobe("12: meaningless of " + e, x -> x.meaningless(e));
        ioobe("13: idle of " + e, x -> x.idle(e, 0));
        ioobe("14: count of " + e, x -> x.count(e));
    }

    // ---- promises 1 and 2

    private static void making() {
        newNoEncodings();
        newWidth();
        newWidthWrapsAround();
        encodingNumber();
        encodingMaskFromWOn();
        encodingValueFromWOn();
        encodingValueBesideMask();
        encodingForty();
    }

    // "No encodings"
    private static void newNoEncodings() {
        for (int w = 1; w <= 16; w++) {
            EncodingChecks x = new EncodingChecks(w);
            same("1: encodings", 0, x.size(0));
            same("1: pairs", 0, x.pairs());
            same("1: clashes", 0, x.clashes(255));
            same("1: worst", 0, x.worst());
            same("1: gaps", 1 << w, x.gaps());
            same("1: blocks of none", 1, x.blocks(NONE));
            same("1: the block's free bits", w, x.block(NONE, 0, 1));
            same("1: lowest word", NONE, x.decode(0));
            same("1: greatest word", NONE, x.decode((1 << w) - 1));
            thrown("1: encoding 0", Checks.IOOBE, () -> x.count(0));
            thrown("1: pair 0", Checks.IOOBE, () -> x.pair(0, 0));
            thrown("1: order 0", Checks.IOOBE, () -> x.order(0));
            same("1: clear", 0, x.clear());
        }
    }

    // "W is 1 + (bits - 1) modulo 16"
    private static void newWidth() {
        for (int bits = 1; bits <= 16; bits++) {
            same("1: W of " + bits, bits, new EncodingChecks(bits).size(1));
            same("1: W of 16 more than " + bits, bits, new EncodingChecks(bits + 16).size(1));
            same("1: W of 160 more than " + bits, bits, new EncodingChecks(bits + 160).size(1));
        }
    }

    // "(the rest not below 0)", and the ends of int, where bits - 1 wraps around
    private static void newWidthWrapsAround() {
        for (int bits = 1; bits <= 16; bits++) {
            same("1: W of 16 less than " + bits, bits, new EncodingChecks(bits - 16).size(1));
            same("1: W of 320 less than " + bits, bits, new EncodingChecks(bits - 320).size(1));
        }
        same("1: W of 0", 16, new EncodingChecks(0).size(1));
        same("1: W of -1", 15, new EncodingChecks(-1).size(1));
        same("1: W of the greatest number", 15, new EncodingChecks(MOST).size(1));
        same("1: W of the lowest number", 16, new EncodingChecks(LEAST).size(1));
        same("1: W of the one above it", 1, new EncodingChecks(LEAST + 1).size(1));
    }

    // "An encoding: its number."
    private static void encodingNumber() {
        EncodingChecks x = new EncodingChecks(1);
        for (int e = 0; e < 40; e++) {
            same("2: number", e, x.encoding(1L, e % 2));
        }
        x.clear();
        same("2: number after clear", 0, x.encoding(1L, 1L));
    }

    // "IllegalArgumentException, when mask or value has bits from W on": the mask
    private static void encodingMaskFromWOn() {
        for (int w = 1; w <= 16; w++) {
            EncodingChecks x = new EncodingChecks(w);
            same("2: highest bit of the mask", 0, x.encoding(1L << (w - 1), 0L));
            for (int bit = w; bit < 64; bit++) {
                long mask = 1L << bit;
                thrown("2: mask's bit " + bit, Checks.IAE, () -> x.encoding(mask, 0L));
                thrown("2: mask's bit " + bit + " beside others", Checks.IAE, () -> x.encoding(mask | 1L, 1L));
            }
            thrown("2: mask below 0", Checks.IAE, () -> x.encoding(-1L, 0L));
            same("2: refused ones are not there", 1, x.size(0));
        }
        iae("2: mask's bit W", x -> x.encoding(16L, 0L));
        iae("2: mask of the lowest number", x -> x.encoding(Long.MIN_VALUE, 0L));
        iae("2: mask of the greatest number", x -> x.encoding(Long.MAX_VALUE, 0L));
    }

    // the same sentence: the value
    private static void encodingValueFromWOn() {
        for (int w = 1; w <= 16; w++) {
            EncodingChecks x = new EncodingChecks(w);
            long all = (1L << w) - 1;
            same("2: highest bit of the value", 0, x.encoding(all, 1L << (w - 1)));
            for (int bit = w; bit < 64; bit++) {
                long value = 1L << bit;
                thrown("2: value's bit " + bit, Checks.IAE, () -> x.encoding(all, value));
                thrown("2: both have bit " + bit, Checks.IAE, () -> x.encoding(all | value, value));
            }
            thrown("2: value below 0", Checks.IAE, () -> x.encoding(all, -1L));
            thrown("2: both below 0", Checks.IAE, () -> x.encoding(-1L, -1L));
            same("2: refused ones are not there", 1, x.size(0));
        }
        iae("2: value's bit W", x -> x.encoding(15L, 16L));
        iae("2: value of the lowest number", x -> x.encoding(15L, Long.MIN_VALUE));
        iae("2: both of the greatest number", x -> x.encoding(Long.MAX_VALUE, Long.MAX_VALUE));
    }

    // "or value one that the mask has not"
    private static void encodingValueBesideMask() {
        for (int w = 1; w <= 16; w++) {
            EncodingChecks x = new EncodingChecks(w);
            long all = (1L << w) - 1;
            for (int bit = 0; bit < w; bit++) {
                long value = 1L << bit;
                thrown("2: value's bit " + bit + ", not the mask's", Checks.IAE, () -> x.encoding(all ^ value, value));
                thrown("2: an empty mask and bit " + bit, Checks.IAE, () -> x.encoding(0L, value));
                same("2: bit " + bit + " of both", bit, x.encoding(value, value));
            }
        }
        iae("2: value with a bit beside the mask", x -> x.encoding(5L, 3L));
        same("2: an empty mask and value", 0, new EncodingChecks(3).encoding(0L, 0L));
        same("2: a full mask and value", 0, new EncodingChecks(16).encoding(65535L, 65535L));
    }

    // "UnsupportedOperationException, when there are 40."
    private static void encodingForty() {
        EncodingChecks x = new EncodingChecks(6);
        for (int e = 0; e < 39; e++) {
            x.encoding(63L, e);
        }
        same("2: there is room for the fortieth", 39, x.encoding(63L, 39L));
        thrown("2: none for the next", Checks.UOE, () -> x.encoding(63L, 40L));
        thrown("2: nor for one after it", Checks.UOE, () -> x.encoding(0L, 0L));
        same("2: forty are there", 40, x.size(0));
        same("2: the refused one's word is of none", NONE, x.decode(40));
        same("2: gaps", 24, x.gaps());
        same("2: pairs", 0, x.pairs());
        for (int e = 0; e < 40; e++) {
            same("2: words of " + e, e, x.block(e, 0, 0));
        }
        same("2: forty are cleared", 40, x.clear());
        same("2: and there is room again", 0, x.encoding(63L, 40L));
        same("2: with its word", 0, x.decode(40));
    }

    // ---- promise 3

    private static void conditions() {
        conditionTakesWords();
        conditionNoField();
        conditionNoKind();
        conditionVBelow0();
        conditionVAbove65535();
        conditionFour();
    }

    // "A condition more: whether it takes words away."
    private static void conditionTakesWords() {
        same("3: takes one word of all", true, allWords(16).condition(0, 0, 15, 1, 65535));
        same("3: takes all but one", true, allWords(16).condition(0, 0, 15, 0, 65535));
        same("3: takes all", true, allWords(16).condition(0, 0, 15, 2, 0));
        same("3: takes none", false, allWords(16).condition(0, 1, 15, 1, 32768));
        same("3: all f are below v", false, allWords(15).condition(0, 0, 14, 2, 32768));
        same("3: all but one f are below v", true, allWords(15).condition(0, 0, 14, 2, 32767));
        same("3: none to take", false, withoutWords(16).condition(0, 0, 15, 2, 0));
        EncodingChecks x = allWords(5);
        same("3: takes words", true, x.condition(0, 1, 3, 1, 6));
        same("3: the same takes none again", false, x.condition(0, 1, 3, 1, 6));
        same("3: only words that are there go", 28, x.count(0));
        EncodingChecks y = new EncodingChecks(5);
        y.encoding(31L, 9L);
        same("3: holds for the only word", false, y.condition(0, 0, 4, 0, 9));
        same("3: takes the only word", true, y.condition(0, 0, 4, 1, 9));
        same("3: none is left", 0, y.count(0));
    }

    // "IllegalArgumentException, when there is no such field"
    private static void conditionNoField() {
        for (int w = 1; w <= 16; w++) {
            EncodingChecks x = allWords(w);
            int bits = w;
            same("3: the highest bit", true, x.condition(0, w - 1, w - 1, 0, 0));
            same("3: the whole word", false, x.condition(0, 0, w - 1, 2, 65535));
            thrown("3: to is W", Checks.IAE, () -> x.condition(0, 0, bits, 0, 0));
            thrown("3: from and to are W", Checks.IAE, () -> x.condition(0, bits, bits, 0, 0));
            thrown("3: from is above to", Checks.IAE, () -> x.condition(0, bits, bits - 1, 0, 0));
            thrown("3: from is -1", Checks.IAE, () -> x.condition(0, -1, bits - 1, 0, 0));
            thrown("3: both are -1", Checks.IAE, () -> x.condition(0, -1, -1, 0, 0));
        }
        iae("3: a field too high", x -> x.condition(0, 0, 4, 0, 0));
        iae("3: a field too low", x -> x.condition(0, -1, 3, 0, 0));
        iae("3: a field the wrong way", x -> x.condition(0, 2, 1, 0, 0));
        iae("3: the lowest from", x -> x.condition(0, LEAST, 3, 0, 0));
        iae("3: the greatest to", x -> x.condition(0, 0, MOST, 0, 0));
        iae("3: the greatest both", x -> x.condition(0, MOST, MOST, 0, 0));
        iae("3: the lowest both", x -> x.condition(0, LEAST, LEAST, 0, 0));
        iae("3: the greatest and the lowest", x -> x.condition(0, MOST, LEAST, 0, 0));
        iae("3: 32 bits on", x -> x.condition(0, 32, 33, 0, 0));
    }

    // "or kind"
    private static void conditionNoKind() {
        iae("3: kind -1", x -> x.condition(0, 0, 1, -1, 1));
        iae("3: kind 6", x -> x.condition(0, 0, 1, 6, 1));
        iae("3: the lowest kind", x -> x.condition(0, 0, 1, LEAST, 1));
        iae("3: the greatest kind", x -> x.condition(0, 0, 1, MOST, 1));
        int[] left = {1, 3, 1, 2, 1, 1};
        for (int kind = 0; kind < left.length; kind++) {
            EncodingChecks x = allWords(2);
            x.condition(0, 0, 1, kind, 1);
            same("3: there is kind " + kind, left[kind], x.count(0));
        }
    }

    // "or v is below 0"
    private static void conditionVBelow0() {
        for (int kind = 0; kind <= 5; kind++) {
            int it = kind;
            iae("3: v -1, kind " + kind, x -> x.condition(0, 0, 1, it, -1));
            iae("3: the lowest v, kind " + kind, x -> x.condition(0, 0, 1, it, LEAST));
        }
        same("3: v may be 0", true, allWords(2).condition(0, 0, 1, 0, 0));
    }

    // "or above 65535"
    private static void conditionVAbove65535() {
        for (int kind = 0; kind <= 5; kind++) {
            int it = kind;
            iae("3: v 65536, kind " + kind, x -> x.condition(0, 0, 1, it, 65536));
            iae("3: the greatest v, kind " + kind, x -> x.condition(0, 0, 1, it, MOST));
        }
        same("3: v may be 65535, whatever W is", false, allWords(1).condition(0, 0, 0, 1, 65535));
        EncodingChecks x = allWords(16);
        x.condition(0, 0, 15, 0, 65535);
        same("3: and the greatest word is of it", 0, x.decode(65535));
    }

    // "UnsupportedOperationException, when it has four."
    private static void conditionFour() {
        refused("3: a fifth", Checks.UOE, x -> x.condition(1, 0, 3, 2, 0));
        EncodingChecks x = allWords(8);
        x.encoding(0L, 0L);
        for (int c = 0; c < 3; c++) {
            same("3: room, though none takes words", false, x.condition(0, 0, 0, 2, 2));
            thrown("3: a refused one", Checks.IAE, () -> x.condition(0, 0, 8, 0, 0));
        }
        same("3: room for the fourth: refused ones do not count", true, x.condition(0, 7, 7, 0, 1));
        thrown("3: none for the fifth", Checks.UOE, () -> x.condition(0, 6, 6, 0, 1));
        same("3: the fifth takes no words", 128, x.count(0));
        same("3: the fifth's bit is of no condition", 6, x.meaningless(0));
        for (int c = 0; c < 4; c++) {
            same("3: another encoding has room for four", true, x.condition(1, c, c, 0, 0));
        }
        thrown("3: and no more", Checks.UOE, () -> x.condition(1, 7, 7, 0, 0));
        EncodingChecks y = withoutWords(8);
        for (int c = 0; c < 3; c++) {
            same("3: conditions of one without words count", false, y.condition(0, 0, 0, 0, 0));
        }
        thrown("3: so there is no fifth", Checks.UOE, () -> y.condition(0, 0, 0, 0, 0));
    }

    // ---- promises 4 to 6

    private static void operandsNeedsAndClear() {
        operandHowMany();
        operandNoField();
        needsThoseBefore();
        needsOthers();
        clearEmpty();
        clearFull();
        clearLeavesNothing();
    }

    // "An operand's field: how many bits of it no operand of the encoding had."
    private static void operandHowMany() {
        EncodingChecks x = allWords(16);
        x.encoding(65535L, 0L);
        same("4: all bits", 16, x.operand(0, 0, 15));
        same("4: none is new", 0, x.operand(0, 0, 15));
        same("4: nor is one alone", 0, x.operand(0, 15, 15));
        same("4: another encoding's operands are its own", 16, x.operand(1, 0, 15));
        EncodingChecks y = allWords(16);
        same("4: some", 4, y.operand(0, 4, 7));
        same("4: those below", 4, y.operand(0, 0, 5));
        same("4: those above", 8, y.operand(0, 7, 15));
        EncodingChecks z = allWords(16);
        z.condition(0, 0, 15, 2, 0);
        same("4: conditions do not matter", 16, z.operand(0, 0, 15));
    }

    // "IllegalArgumentException, when there is no such field."
    private static void operandNoField() {
        for (int w = 1; w <= 16; w++) {
            EncodingChecks x = allWords(w);
            int bits = w;
            thrown("4: to is W", Checks.IAE, () -> x.operand(0, 0, bits));
            thrown("4: from and to are W", Checks.IAE, () -> x.operand(0, bits, bits));
            thrown("4: from is above to", Checks.IAE, () -> x.operand(0, bits, bits - 1));
            thrown("4: from is -1", Checks.IAE, () -> x.operand(0, -1, bits - 1));
            thrown("4: both are -1", Checks.IAE, () -> x.operand(0, -1, -1));
            same("4: no bit went to a refused one", w, x.operand(0, 0, w - 1));
        }
        iae("4: a field too high", x -> x.operand(0, 0, 4));
        iae("4: a field too low", x -> x.operand(0, -1, 0));
        iae("4: a field the wrong way", x -> x.operand(0, 3, 0));
        iae("4: the lowest from", x -> x.operand(0, LEAST, 3));
        iae("4: the greatest to", x -> x.operand(0, 0, MOST));
        iae("4: the greatest both", x -> x.operand(0, MOST, MOST));
        iae("4: the lowest both", x -> x.operand(0, LEAST, LEAST));
        iae("4: 32 bits on", x -> x.operand(0, 32, 33));
    }

    // "The variants that an encoding needs (a set of bits 0 .. 7): those before."
    private static void needsThoseBefore() {
        EncodingChecks x = allWords(1);
        int before = 0;
        for (int variants = 0; variants < 256; variants++) {
            same("5: those before " + variants, before, x.needs(0, variants));
            before = variants;
        }
        same("5: the full set", 255, x.needs(0, 0));
        same("5: the empty set", 0, x.needs(0, 0));
    }

    // "IllegalArgumentException, when there are others."
    private static void needsOthers() {
        for (int bit = 8; bit < 32; bit++) {
            int variants = 1 << bit;
            iae("5: variant " + bit, x -> x.needs(2, variants));
            iae("5: variant " + bit + " beside all others", x -> x.needs(2, variants | 255));
        }
        iae("5: -1", x -> x.needs(2, -1));
        iae("5: the greatest number", x -> x.needs(2, MOST));
    }

    // "How many encodings there were": none
    private static void clearEmpty() {
        EncodingChecks x = new EncodingChecks(3);
        same("6: of a new object", 0, x.clear());
        same("6: again", 0, x.clear());
        x.encoding(0L, 0L);
        same("6: one", 1, x.clear());
        same("6: after it", 0, x.clear());
        thrown("6: a refused encoding", Checks.IAE, () -> x.encoding(8L, 0L));
        same("6: is not there", 0, x.clear());
    }

    // the same sentence: as many as there may be
    private static void clearFull() {
        EncodingChecks x = forty(4);
        thrown("6: one too many", Checks.UOE, () -> x.encoding(0L, 0L));
        same("6: forty", 40, x.clear());
        for (int e = 0; e < 40; e++) {
            same("6: numbers begin again", e, x.encoding(0L, 0L));
        }
        same("6: forty again", 40, x.clear());
    }

    // "none are left"
    private static void clearLeavesNothing() {
        EncodingChecks cleared = five();
        cleared.gaps();
        cleared.clear();
        same("6: as a new object", Everything.of(new EncodingChecks(4)), Everything.of(cleared));
        EncodingChecks again = forty(4);
        for (int e = 0; e < 40; e++) {
            again.condition(e, 0, 3, 0, e % 16);
            again.needs(e, 255);
            again.operand(e, 0, 3);
        }
        again.clear();
        EncodingChecks fresh = new EncodingChecks(4);
        for (int e = 0; e < 5; e++) {
            again.encoding(e, e);
            fresh.encoding(e, e);
        }
        same("6: nothing of the old ones is in new ones", Everything.of(fresh), Everything.of(again));
    }

    // ---- promises 7 to 9

    private static void pairsOfEncodings() {
        pairsNone();
        pairsAll();
        pairOrder();
        pairLowestAndMany();
        pairNone();
        pairNoWhich();
        aliasNothingInCommon();
        aliasSame();
        aliasLiesIn();
        aliasElse();
    }

    // "How many pairs of encodings have a word in common.": none
    private static void pairsNone() {
        same("7: no encodings", 0, new EncodingChecks(8).pairs());
        same("7: one encoding", 0, allWords(8).pairs());
        EncodingChecks x = new EncodingChecks(1);
        x.encoding(1L, 0L);
        x.encoding(1L, 1L);
        same("7: no common word", 0, x.pairs());
        EncodingChecks y = withoutWords(8);
        y.encoding(0L, 0L);
        same("7: one without words", 0, y.pairs());
        y.condition(1, 0, 0, 2, 0);
        same("7: two without words", 0, y.pairs());
    }

    // the same sentence: as many as there may be, and one common word
    private static void pairsAll() {
        same("7: forty of all words", 780, forty(16).pairs());
        EncodingChecks x = new EncodingChecks(16);
        for (int bit = 0; bit < 16; bit++) {
            x.encoding(0xFFFFL ^ (1L << bit), 0xFFFFL ^ (1L << bit));
        }
        same("7: one word is common to all", 120, x.pairs());
        x.condition(3, 0, 15, 1, 65535);
        same("7: without it", 105, x.pairs());
    }

    // "Of the k-th such pair (by the first one, then the second one; the first one is the lower number)"
    private static void pairOrder() {
        EncodingChecks x = forty(2);
        int[][] due = {{0, 0, 1}, {1, 0, 2}, {38, 0, 39}, {39, 1, 2}, {76, 1, 39}, {77, 2, 3}, {779, 38, 39}};
        for (int[] it : due) {
            same("8: first of " + it[0], it[1], x.pair(it[0], 0));
            same("8: second of " + it[0], it[2], x.pair(it[0], 1));
        }
        EncodingChecks y = five();
        same("8: ones without a common word are passed over", 1, y.pair(3, 0));
        same("8: so the next one's second is 2", 2, y.pair(3, 1));
    }

    // "the lowest common word (2), how many words they have in common (3)"
    private static void pairLowestAndMany() {
        for (int w = 1; w <= 16; w++) {
            int greatest = (1 << w) - 1;
            EncodingChecks x = allWords(w);
            x.encoding(0L, 0L);
            x.encoding(greatest, greatest);
            same("8: lowest of all", 0, x.pair(0, 2));
            same("8: all words", greatest + 1, x.pair(0, 3));
            same("8: the greatest word", greatest, x.pair(1, 2));
            same("8: one word", 1, x.pair(1, 3));
            same("8: the greatest word again", greatest, x.pair(2, 2));
            same("8: one word again", 1, x.pair(2, 3));
        }
    }

    // "IndexOutOfBoundsException, when there is no such pair"
    private static void pairNone() {
        same("8: the last pair", 4, five().pair(5, 1));
        for (int which = 0; which < 4; which++) {
            int it = which;
            ioobe("8: one pair too many, " + which, x -> x.pair(6, it));
            ioobe("8: a pair below 0, " + which, x -> x.pair(-1, it));
            ioobe("8: the lowest number, " + which, x -> x.pair(LEAST, it));
            ioobe("8: the greatest number, " + which, x -> x.pair(MOST, it));
            thrown("8: no encodings, " + which, Checks.IOOBE, () -> new EncodingChecks(2).pair(0, it));
            thrown("8: one encoding, " + which, Checks.IOOBE, () -> allWords(2).pair(0, it));
            thrown("8: behind 780 pairs, " + which, Checks.IOOBE, () -> forty(2).pair(780, it));
        }
        EncodingChecks cleared = five();
        cleared.clear();
        thrown("8: after clear", Checks.IOOBE, () -> cleared.pair(0, 0));
    }

    // "or which"
    private static void pairNoWhich() {
        ioobe("8: which 4", x -> x.pair(0, 4));
        ioobe("8: which -1", x -> x.pair(0, -1));
        ioobe("8: the lowest which", x -> x.pair(0, LEAST));
        ioobe("8: the greatest which", x -> x.pair(0, MOST));
        ioobe("8: no pair and no which", x -> x.pair(6, 4));
    }

    // "0 when two encodings have no word in common"
    private static void aliasNothingInCommon() {
        EncodingChecks x = new EncodingChecks(16);
        x.encoding(1L, 0L);
        x.encoding(1L, 1L);
        same("9: halves", 0, x.alias(0, 1));
        same("9: halves, the other way", 0, x.alias(1, 0));
        EncodingChecks y = withoutWords(3);
        y.encoding(0L, 0L);
        same("9: one without words in all", 0, y.alias(0, 1));
        same("9: all beside one without words", 0, y.alias(1, 0));
        same("9: one without words and itself", 0, y.alias(0, 0));
        y.condition(1, 0, 0, 2, 0);
        same("9: two without words", 0, y.alias(0, 1));
    }

    // "1 when they have the same words (and some)"
    private static void aliasSame() {
        EncodingChecks x = allWords(3);
        same("9: itself", 1, x.alias(0, 0));
        x.encoding(7L, 7L);
        same("9: itself with one word", 1, x.alias(1, 1));
        x.condition(0, 0, 2, 3, 6);
        same("9: the same word told in another way", 1, x.alias(0, 1));
        same("9: and the other way", 1, x.alias(1, 0));
        x.needs(0, 255);
        same("9: variants do not matter", 1, x.alias(1, 0));
    }

    // "2 when a's words lie in b's; 3 when b's lie in a's"
    private static void aliasLiesIn() {
        for (int w = 1; w <= 16; w++) {
            EncodingChecks x = allWords(w);
            x.encoding(0L, 0L);
            x.condition(1, 0, w - 1, 1, (1 << w) - 1);
            same("9: one word fewer lies in", 2, x.alias(1, 0));
            same("9: one word more has it in it", 3, x.alias(0, 1));
            x.encoding((1L << w) - 1, 0L);
            same("9: one word lies in all", 2, x.alias(2, 0));
            same("9: all have it in them", 3, x.alias(0, 2));
        }
    }

    // "else 4"
    private static void aliasElse() {
        for (int w = 2; w <= 16; w++) {
            EncodingChecks x = new EncodingChecks(w);
            x.encoding(1L, 1L);
            x.encoding(2L, 2L);
            same("9: each has words of its own", 4, x.alias(0, 1));
            same("9: the other way", 4, x.alias(1, 0));
        }
        EncodingChecks y = allWords(16);
        y.encoding(0L, 0L);
        y.condition(0, 0, 15, 1, 0);
        y.condition(1, 0, 15, 1, 65535);
        same("9: each has one word of its own", 4, y.alias(0, 1));
    }

    // ---- promises 10 and 11

    private static void clashesOfVariants() {
        clashesBothPresent();
        clashesNoneLiesInTheOther();
        clashesOthers();
        worstLowest();
        worstEachSet();
    }

    /** Words of seven bits; encoding e has those with bit e, and each two of them clash. */
    private static EncodingChecks crossing(int many) {
        EncodingChecks x = new EncodingChecks(7);
        for (int e = 0; e < many; e++) {
            x.encoding(1L << e, 1L << e);
        }
        return x;
    }

    // "How many pairs of encodings that are both present in a set of variants have a word in common"
    private static void clashesBothPresent() {
        same("10: no encodings", 0, new EncodingChecks(7).clashes(0));
        same("10: one encoding", 0, crossing(1).clashes(0));
        EncodingChecks x = crossing(3);
        same("10: all present", 3, x.clashes(0));
        x.needs(0, 1);
        same("10: one missing", 1, x.clashes(0));
        same("10: it is present", 3, x.clashes(1));
        x.needs(1, 128);
        same("10: two missing", 0, x.clashes(0));
        same("10: the first of them missing", 1, x.clashes(128));
        same("10: the second of them missing", 1, x.clashes(1));
        same("10: none missing", 3, x.clashes(129));
        same("10: a full set", 3, x.clashes(255));
        same("10: all others", 0, x.clashes(126));
    }

    // "and none lies in the other"
    private static void clashesNoneLiesInTheOther() {
        same("10: the same words", 0, forty(5).clashes(255));
        EncodingChecks x = allWords(5);
        x.encoding(31L, 4L);
        same("10: the second lies in the first", 0, x.clashes(0));
        EncodingChecks y = new EncodingChecks(5);
        y.encoding(31L, 4L);
        y.encoding(0L, 0L);
        same("10: the first lies in the second", 0, y.clashes(0));
        y.encoding(0L, 0L);
        y.condition(2, 0, 0, 2, 0);
        same("10: one without words", 0, y.clashes(0));
        y.condition(1, 0, 4, 1, 4);
        same("10: nothing in common any more", 0, y.clashes(0));
        EncodingChecks z = allWords(16);
        z.encoding(0L, 0L);
        z.condition(0, 0, 15, 1, 0);
        same("10: still in the other", 0, z.clashes(0));
        z.condition(1, 0, 15, 1, 1);
        same("10: one word each beside the common ones", 1, z.clashes(0));
    }

    // "IllegalArgumentException, when there are others than 0 .. 7."
    private static void clashesOthers() {
        for (int bit = 8; bit < 32; bit++) {
            int variants = 1 << bit;
            iae("10: variant " + bit, x -> x.clashes(variants));
            iae("10: variant " + bit + " beside all others", x -> x.clashes(variants | 255));
        }
        iae("10: -1", x -> x.clashes(-1));
        iae("10: the greatest number", x -> x.clashes(MOST));
        thrown("10: without encodings, too", Checks.IAE, () -> new EncodingChecks(4).clashes(256));
    }

    // "The set of variants in which most pairs clash, of several the lowest number."
    private static void worstLowest() {
        same("11: no encodings", 0, new EncodingChecks(7).worst());
        same("11: no clashes", 0, forty(7).worst());
        same("11: all clash in each set", 0, crossing(7).worst());
        EncodingChecks x = crossing(2);
        x.needs(0, 255);
        same("11: only the full set has both", 255, x.worst());
        EncodingChecks y = crossing(4);
        y.needs(3, 64);
        y.needs(0, 2);
        same("11: no variant that no encoding needs", 66, y.worst());
        y.condition(3, 3, 3, 0, 0);
        same("11: nor one that only one without words needs", 2, y.worst());
        EncodingChecks z = new EncodingChecks(7);
        z.encoding(3L, 1L);
        z.encoding(5L, 1L);
        z.encoding(3L, 0L);
        z.encoding(5L, 0L);
        z.needs(0, 32);
        z.needs(2, 4);
        same("11: more pairs in both sets together", 36, z.worst());
        z.clear();
        same("11: nothing is left of it", 0, z.worst());
    }

    // the same sentence: each set of variants may be the one
    private static void worstEachSet() {
        for (int set = 0; set < 256; set++) {
            EncodingChecks x = crossing(3);
            x.needs(0, set & 0x55);
            x.needs(1, set & 0xAA);
            same("11: the set " + set, set, x.worst());
            same("11: clashes in it", 3, x.clashes(set));
        }
        for (int variant = 0; variant < 8; variant++) {
            EncodingChecks y = crossing(4);
            y.needs(3, 1 << variant);
            same("11: more pairs with variant " + variant, 1 << variant, y.worst());
            y.needs(0, 255 ^ (1 << variant));
            same("11: more pairs with all others, too", 255, y.worst());
        }
    }

    // ---- promises 12 to 15

    private static void bitsAndWords() {
        meaninglessFree();
        meaninglessOfNoCondition();
        meaninglessOfNoOperand();
        idleLowerFirst();
        idleNone();
        countWords();
        gapsAll();
        gapsNone();
    }

    // "How many of an encoding's bits are free"
    private static void meaninglessFree() {
        for (int w = 1; w <= 16; w++) {
            EncodingChecks x = allWords(w);
            long all = (1L << w) - 1;
            x.encoding(all, 0L);
            x.encoding(1L << (w - 1), 0L);
            same("12: all are free", w, x.meaningless(0));
            same("12: none is free", 0, x.meaningless(1));
            same("12: all but the highest", w - 1, x.meaningless(2));
        }
    }

    // "of no condition"
    private static void meaninglessOfNoCondition() {
        for (int w = 1; w <= 16; w++) {
            EncodingChecks x = allWords(w);
            x.condition(0, w - 1, w - 1, 2, 2);
            same("12: one that takes no words", w - 1, x.meaningless(0));
            x.condition(0, 0, w - 1, 2, 0);
            same("12: all bits", 0, x.meaningless(0));
            same("12: without words", 0, x.count(0));
        }
    }

    // "and of no operand"
    private static void meaninglessOfNoOperand() {
        for (int w = 1; w <= 16; w++) {
            EncodingChecks x = allWords(w);
            x.encoding(0L, 0L);
            x.operand(0, 0, 0);
            same("12: the lowest bit", w - 1, x.meaningless(0));
            x.operand(0, 0, w - 1);
            same("12: all bits", 0, x.meaningless(0));
            same("12: not another's", w, x.meaningless(1));
        }
        EncodingChecks y = new EncodingChecks(4);
        y.encoding(3L, 0L);
        y.condition(0, 0, 2, 1, 7);
        y.operand(0, 1, 2);
        same("12: bits of several things count once", 1, y.meaningless(0));
    }

    // "The k-th of these (from 0, lower ones first)."
    private static void idleLowerFirst() {
        for (int w = 1; w <= 16; w++) {
            EncodingChecks x = allWords(w);
            for (int k = 0; k < w; k++) {
                same("13: of all bits", k, x.idle(0, k));
            }
            x.operand(0, 0, w / 2);
            for (int k = 0; k < x.meaningless(0); k++) {
                same("13: of the upper bits", w / 2 + 1 + k, x.idle(0, k));
            }
        }
        EncodingChecks y = new EncodingChecks(16);
        y.encoding(0x7FFEL, 0L);
        same("13: the lowest bit", 0, y.idle(0, 0));
        same("13: the highest bit", 15, y.idle(0, 1));
    }

    // "IllegalArgumentException, when there is none."
    private static void idleNone() {
        same("13: the last one", 1, five().idle(1, 0));
        iae("13: one too many", x -> x.idle(1, 1));
        iae("13: below 0", x -> x.idle(1, -1));
        iae("13: the lowest number", x -> x.idle(1, LEAST));
        iae("13: the greatest number", x -> x.idle(1, MOST));
        iae("13: no such bits at all", x -> x.idle(3, 0));
        for (int w = 1; w <= 16; w++) {
            int bits = w;
            EncodingChecks x = allWords(w);
            thrown("13: none behind all bits", Checks.IAE, () -> x.idle(0, bits));
            x.operand(0, 0, w - 1);
            thrown("13: none left", Checks.IAE, () -> x.idle(0, 0));
        }
    }

    // "How many words an encoding has."
    private static void countWords() {
        for (int w = 1; w <= 16; w++) {
            EncodingChecks x = allWords(w);
            x.encoding((1L << w) - 1, 0L);
            x.encoding(1L, 1L);
            same("14: all", 1 << w, x.count(0));
            same("14: one", 1, x.count(1));
            same("14: half of them", 1 << (w - 1), x.count(2));
            x.condition(1, 0, w - 1, 1, 0);
            same("14: none", 0, x.count(1));
            same("14: the others keep theirs", 1 << w, x.count(0));
        }
    }

    // "How many words no encoding has.": all
    private static void gapsAll() {
        for (int w = 1; w <= 16; w++) {
            same("15: no encodings", 1 << w, new EncodingChecks(w).gaps());
            EncodingChecks x = withoutWords(w);
            same("15: one without words", 1 << w, x.gaps());
            x.encoding((1L << w) - 1, (1L << w) - 1);
            same("15: all but one", (1 << w) - 1, x.gaps());
            x.clear();
            same("15: after clear", 1 << w, x.gaps());
        }
    }

    // the same sentence: none
    private static void gapsNone() {
        for (int w = 1; w <= 16; w++) {
            EncodingChecks x = allWords(w);
            same("15: all words are of one", 0, x.gaps());
            x.condition(0, 0, w - 1, 1, 0);
            same("15: one word is given up", 1, x.gaps());
            x.encoding((1L << w) - 1, 0L);
            same("15: another has it", 0, x.gaps());
            x.needs(1, 255);
            same("15: whatever it needs", 0, x.gaps());
        }
        same("15: forty of all words", 0, forty(16).gaps());
    }

    // ---- promises 16 and 17

    private static void blocksOfWords() {
        blocksOfAnEncoding();
        blocksOfNone();
        blockLowestAndFree();
        blockNoBlock();
        blockNoWhat();
    }

    // "How many blocks the words of an encoding have"
    private static void blocksOfAnEncoding() {
        for (int w = 1; w <= 16; w++) {
            EncodingChecks x = allWords(w);
            same("16: all words", 1, x.blocks(0));
            x.condition(0, 0, w - 1, 1, 0);
            same("16: all but one", w, x.blocks(0));
            x.condition(0, 0, w - 1, 2, 0);
            same("16: no words", 0, x.blocks(0));
            x.encoding(1L, 0L);
            same("16: the most", 1 << (w - 1), x.blocks(1));
        }
    }

    // "or with NONE the words of none"
    private static void blocksOfNone() {
        for (int w = 1; w <= 16; w++) {
            EncodingChecks x = new EncodingChecks(w);
            same("16: no encodings", 1, x.blocks(NONE));
            x.encoding(1L, 0L);
            same("16: the most of none", 1 << (w - 1), x.blocks(NONE));
            x.encoding(1L, 1L);
            same("16: no words of none", 0, x.blocks(NONE));
            x.condition(1, 0, w - 1, 1, (1 << w) - 1);
            same("16: one word of none", 1, x.blocks(NONE));
            same("16: it is the greatest", (1 << w) - 1, x.block(NONE, 0, 0));
            x.clear();
            same("16: all again", 1, x.blocks(NONE));
        }
    }

    // "Of the k-th of these blocks its lowest word (what 0), its free bits (1)."
    private static void blockLowestAndFree() {
        for (int w = 1; w <= 16; w++) {
            int greatest = (1 << w) - 1;
            EncodingChecks x = allWords(w);
            same("17: lowest of all words", 0, x.block(0, 0, 0));
            same("17: free bits of all words", w, x.block(0, 0, 1));
            x.encoding(greatest, greatest);
            same("17: the greatest word", greatest, x.block(1, 0, 0));
            same("17: no free bits", 0, x.block(1, 0, 1));
            x.condition(0, 0, w - 1, 0, 0);
            same("17: the lowest word alone", 0, x.block(0, 0, 1));
            same("17: lowest of the last of many", greatest - 1, lastOfEven(w, 0));
            same("17: its free bits", 0, lastOfEven(w, 1));
        }
    }

    private static int lastOfEven(int w, int what) {
        EncodingChecks x = new EncodingChecks(w);
        x.encoding(1L, 0L);
        return x.block(0, (1 << (w - 1)) - 1, what);
    }

    // "IllegalArgumentException, when there is no such block"
    private static void blockNoBlock() {
        same("17: the last block", 15, five().block(2, 7, 0));
        for (int what = 0; what < 2; what++) {
            int it = what;
            iae("17: one too many, " + what, x -> x.block(2, 8, it));
            iae("17: below 0, " + what, x -> x.block(2, -1, it));
            iae("17: the lowest number, " + what, x -> x.block(2, LEAST, it));
            iae("17: the greatest number, " + what, x -> x.block(2, MOST, it));
            iae("17: of one without words, " + what, x -> x.block(3, 0, it));
            iae("17: one too many of none, " + what, x -> x.block(NONE, 4, it));
            iae("17: below 0 of none, " + what, x -> x.block(NONE, -1, it));
            thrown("17: no words of none, " + what, Checks.IAE, () -> allWords(16).block(NONE, 0, it));
            thrown("17: a second one of all words, " + what, Checks.IAE, () -> allWords(16).block(0, 1, it));
            thrown("17: behind the most, " + what, Checks.IAE, () -> halved().block(0, 32768, it));
        }
    }

    private static EncodingChecks halved() {
        EncodingChecks x = new EncodingChecks(16);
        x.encoding(1L, 1L);
        return x;
    }

    // "or what"
    private static void blockNoWhat() {
        iae("17: what 2", x -> x.block(2, 0, 2));
        iae("17: what -1", x -> x.block(2, 0, -1));
        iae("17: the lowest what", x -> x.block(2, 0, LEAST));
        iae("17: the greatest what", x -> x.block(2, 0, MOST));
        iae("17: what 2 of none", x -> x.block(NONE, 0, 2));
        iae("17: no block and no what", x -> x.block(2, 8, 2));
    }

    // ---- promises 18 to 20

    private static void decodeOrderAndSize() {
        decodeOfOne();
        decodeOneThatLiesInAll();
        decodeLowestNumber();
        decodeSameWords();
        decodeWithout();
        decodeNoWord();
        orderBeforeThoseWithMore();
        orderLowestNumber();
        orderNone();
        sizeEncodings();
        sizeWidth();
        sizeAnother();
    }

    // "The encoding that a word is of"
    private static void decodeOfOne() {
        for (int w = 1; w <= 16; w++) {
            int greatest = (1 << w) - 1;
            EncodingChecks x = new EncodingChecks(w);
            x.encoding(greatest, greatest);
            x.encoding(greatest, 0L);
            same("18: the greatest word", 0, x.decode(greatest));
            same("18: the lowest word", 1, x.decode(0));
            same("18: the word below the greatest", w == 1 ? 1 : NONE, x.decode(greatest - 1));
        }
    }

    // "of several one whose words lie in those of all others that it is of"
    private static void decodeOneThatLiesInAll() {
        EncodingChecks x = new EncodingChecks(6);
        for (int e = 0; e < 40; e++) {
            x.encoding(0L, 0L);
            x.condition(e, 0, 5, 2, 40 - e);
        }
        same("18: of forty the last", 39, x.decode(0));
        same("18: of two the last", 1, x.decode(38));
        same("18: of one", 0, x.decode(39));
        EncodingChecks y = five();
        y.encoding(15L, 13L);
        same("18: it lies in ones that cross", 5, y.decode(13));
        y.encoding(13L, 8L);
        same("18: one that the word is not of does not matter", 0, y.decode(9));
        same("18: one that crosses others, but lies in those of the word", 6, y.decode(8));
    }

    // "else .. the lowest number"
    private static void decodeLowestNumber() {
        same("18: two cross", 0, crossing(2).decode(3));
        same("18: all cross", 0, crossing(7).decode(127));
        same("18: the lowest of those that the word is of", 2, crossing(7).decode(124));
        EncodingChecks x = allWords(7);
        x.encoding(1L, 1L);
        x.encoding(2L, 2L);
        same("18: though two lie in it", 0, x.decode(3));
        same("18: one of these", 1, x.decode(1));
        EncodingChecks y = new EncodingChecks(7);
        y.encoding(4L, 4L);
        y.encoding(3L, 3L);
        y.encoding(1L, 1L);
        same("18: not the one that lies in some others", 0, y.decode(7));
        same("18: the one that lies in all", 1, y.decode(3));
    }

    // "(and of ones with the same words) the lowest number"
    private static void decodeSameWords() {
        same("18: forty with the same words", 0, forty(16).decode(65535));
        EncodingChecks x = allWords(4);
        x.encoding(12L, 8L);
        x.encoding(12L, 8L);
        x.encoding(8L, 8L);
        same("18: two with the same words in others", 1, x.decode(11));
        same("18: another word", 3, x.decode(12));
    }

    // "NONE without."
    private static void decodeWithout() {
        same("18: no encodings", NONE, new EncodingChecks(16).decode(65535));
        same("18: one without words", NONE, withoutWords(16).decode(0));
        EncodingChecks x = allWords(16);
        x.condition(0, 0, 15, 1, 65535);
        same("18: given up", NONE, x.decode(65535));
        x.encoding(65535L, 65535L);
        same("18: had by another", 1, x.decode(65535));
        x.clear();
        same("18: after clear", NONE, x.decode(65535));
    }

    // "IllegalArgumentException, when there is no such word."
    private static void decodeNoWord() {
        for (int w = 1; w <= 16; w++) {
            for (int bit = w; bit < 32; bit++) {
                int word = 1 << bit;
                EncodingChecks x = allWords(w);
                thrown("18: bit " + bit + " of " + w, Checks.IAE, () -> x.decode(word));
                thrown("18: bit " + bit + " of " + w + " and others", Checks.IAE, () -> x.decode(word | 1));
            }
        }
        iae("18: one too great", x -> x.decode(16));
        iae("18: -1", x -> x.decode(-1));
        iae("18: the lowest number", x -> x.decode(LEAST));
        iae("18: the greatest number", x -> x.decode(MOST));
        thrown("18: without encodings, too", Checks.IAE, () -> new EncodingChecks(16).decode(65536));
    }

    // "each one stands before those in whose words its own lie, if these are more"
    private static void orderBeforeThoseWithMore() {
        EncodingChecks x = new EncodingChecks(16);
        for (int e = 0; e < 40; e++) {
            x.encoding(0L, 0L);
            x.condition(e, 0, 15, 3, 39 - e);
        }
        for (int k = 0; k < 40; k++) {
            same("19: a chain of forty that is in order", k, x.order(k));
        }
        EncodingChecks y = new EncodingChecks(16);
        for (int e = 0; e < 40; e++) {
            y.encoding(0L, 0L);
            y.condition(e, 0, 15, 3, e);
        }
        for (int k = 0; k < 40; k++) {
            same("19: a chain of forty the other way", 39 - k, y.order(k));
        }
        EncodingChecks z = allWords(16);
        z.encoding(0L, 0L);
        z.condition(1, 0, 15, 1, 0);
        same("19: one word fewer", 1, z.order(0));
        same("19: one word more", 0, z.order(1));
        z.encoding(0L, 0L);
        z.condition(2, 0, 15, 2, 0);
        same("19: one without words", 2, z.order(0));
    }

    // "of those that may be next the lowest number"
    private static void orderLowestNumber() {
        EncodingChecks x = forty(4);
        for (int k = 0; k < 40; k++) {
            same("19: the same words are not more", k, x.order(k));
        }
        EncodingChecks y = crossing(7);
        for (int k = 0; k < 7; k++) {
            same("19: ones that cross", k, y.order(k));
        }
        // 0 waits for 3; 1 may be next, and 2 waits for 4; once 3 stands, 0 is lower than 4.
        EncodingChecks z = new EncodingChecks(4);
        z.encoding(12L, 0L);
        z.encoding(12L, 8L);
        z.encoding(12L, 4L);
        z.encoding(15L, 3L);
        z.encoding(15L, 7L);
        int[] due = {1, 3, 0, 4, 2};
        for (int k = 0; k < due.length; k++) {
            same("19: place " + k, due[k], z.order(k));
        }
        z.needs(1, 255);
        same("19: whatever it needs", 1, z.order(0));
    }

    // "IndexOutOfBoundsException, when there is none."
    private static void orderNone() {
        same("19: the last one", 0, five().order(4));
        ioobe("19: one too many", x -> x.order(5));
        ioobe("19: below 0", x -> x.order(-1));
        ioobe("19: the lowest number", x -> x.order(LEAST));
        ioobe("19: the greatest number", x -> x.order(MOST));
        thrown("19: no encodings", Checks.IOOBE, () -> new EncodingChecks(4).order(0));
        thrown("19: behind forty", Checks.IOOBE, () -> forty(4).order(40));
        same("19: the last of forty", 39, forty(4).order(39));
        EncodingChecks x = five();
        x.clear();
        thrown("19: after clear", Checks.IOOBE, () -> x.order(0));
    }

    // "Encodings (0)"
    private static void sizeEncodings() {
        EncodingChecks x = new EncodingChecks(3);
        for (int many = 0; many < 40; many++) {
            same("20: encodings", many, x.size(0));
            x.encoding(7L, 7L);
        }
        thrown("20: one too many", Checks.UOE, () -> x.encoding(7L, 7L));
        same("20: forty", 40, x.size(0));
        x.clear();
        same("20: none", 0, x.size(0));
    }

    // "W (1)"
    private static void sizeWidth() {
        for (int w = 1; w <= 16; w++) {
            EncodingChecks x = allWords(w);
            same("20: W", w, x.size(1));
            x.clear();
            same("20: W after clear", w, x.size(1));
        }
    }

    // "NONE for another what."
    private static void sizeAnother() {
        for (int what : new int[] {-1, 2, 3, 16, 40, LEAST, MOST, LEAST + 1, 256, 65536}) {
            same("20: what " + what, NONE, five().size(what));
            same("20: what " + what + " of a new object", NONE, new EncodingChecks(1).size(what));
        }
    }
}
