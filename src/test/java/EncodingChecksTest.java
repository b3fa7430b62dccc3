/** Each promise of the document: ordinary inputs, its edges, and wrong inputs. */
public final class EncodingChecksTest {
    private static final Checks CHECKS = new Checks();

    public static void main(String[] args) {
        promise1NewObject();
        promise2Encoding();
        promise3Condition();
        promise3Kinds();
        promise4Operand();
        promise5Needs();
        promise6Clear();
        promise7Pairs();
        promise8Pair();
        promise9Alias();
        promise10Clashes();
        promise11Worst();
        promise12Meaningless();
        promise13Idle();
        promise14Count();
        promise15Gaps();
        promise16Blocks();
        promise17Block();
        promise18Decode();
        promise19Order();
        promise20Size();
        noSuchEncodingComesFirst();
        CHECKS.end();
    }

    private static void same(String what, Object due, Object got) {
        CHECKS.same(what, due, got);
    }

    private static void iae(String what, Checks.Call call) {
        CHECKS.throwsDue(what, Checks.IAE, call);
    }

    private static void ioobe(String what, Checks.Call call) {
        CHECKS.throwsDue(what, Checks.IOOBE, call);
    }

    private static void uoe(String what, Checks.Call call) {
        CHECKS.throwsDue(what, Checks.UOE, call);
    }

    private static void promise1NewObject() {
        int[] bits = {1, 5, 16, 17, 32, 33, 0, -1, -14, -15, -16, Integer.MAX_VALUE, Integer.MIN_VALUE};
        int[] widths = {1, 5, 16, 1, 16, 1, 16, 15, 2, 1, 16, 15, 16};
        for (int i = 0; i < bits.length; i++) {
            EncodingChecks x = new EncodingChecks(bits[i]);
            same("1: W of " + bits[i], widths[i], x.size(1));
            same("1: encodings of a new object", 0, x.size(0));
            same("1: all words are gaps", 1 << widths[i], x.gaps());
        }
    }

    private static void promise2Encoding() {
        EncodingChecks x = new EncodingChecks(4);
        same("2: first", 0, x.encoding(0b1100L, 0b0100L));
        same("2: whole mask", 1, x.encoding(15L, 15L));
        same("2: no mask", 2, x.encoding(0L, 0L));
        same("2: the same again", 3, x.encoding(15L, 15L));
        iae("2: mask with bit W", () -> x.encoding(16L, 0L));
        iae("2: value with bit W", () -> x.encoding(15L, 16L));
        iae("2: both with bit W", () -> x.encoding(16L, 16L));
        iae("2: value beside the mask", () -> x.encoding(4L, 5L));
        iae("2: mask below 0", () -> x.encoding(-1L, 0L));
        iae("2: value below 0", () -> x.encoding(15L, -1L));
        iae("2: high bits of the mask", () -> x.encoding(1L << 32, 0L));
        iae("2: high bits of both", () -> x.encoding(1L << 63, 1L << 63));
        same("2: what was refused is not there", 4, x.size(0));
        for (int i = 4; i < 40; i++) {
            same("2: number", i, x.encoding(15L, i % 16));
        }
        uoe("2: the 41st", () -> x.encoding(0L, 0L));
        iae("2: IllegalArgumentException first", () -> x.encoding(0L, 1L));
        same("2: still forty", 40, x.size(0));
        same("2: the last one's words", 1, x.count(39));
    }

    private static void promise3Condition() {
        EncodingChecks x = new EncodingChecks(6);
        x.encoding(0b110000L, 0b010000L);
        iae("3: from below 0", () -> x.condition(0, -1, 2, 0, 0));
        iae("3: to from W on", () -> x.condition(0, 0, 6, 0, 0));
        iae("3: from above to", () -> x.condition(0, 3, 2, 0, 0));
        iae("3: kind below 0", () -> x.condition(0, 0, 1, -1, 0));
        iae("3: kind 6", () -> x.condition(0, 0, 1, 6, 0));
        iae("3: v below 0", () -> x.condition(0, 0, 1, 0, -1));
        iae("3: v above 65535", () -> x.condition(0, 0, 1, 0, 65536));
        iae("3: extremes", () -> x.condition(0, Integer.MIN_VALUE, Integer.MAX_VALUE, 0, 0));
        same("3: refused ones take nothing", 16, x.count(0));
        same("3: v may be 65535", false, x.condition(0, 0, 5, 2, 65535));
        same("3: fixed bits have their value", false, x.condition(0, 4, 5, 0, 1));
        same("3: takes away", true, x.condition(0, 0, 5, 3, 17));
        same("3: left", 14, x.count(0));
        same("3: nothing more", false, x.condition(0, 0, 5, 3, 17));
        uoe("3: the fifth", () -> x.condition(0, 0, 0, 0, 0));
        iae("3: IllegalArgumentException before it", () -> x.condition(0, 0, 6, 0, 0));
        same("3: the fifth takes nothing", 14, x.count(0));
        x.encoding(0L, 0L);
        same("3: another one has room", true, x.condition(1, 5, 5, 1, 0));
        same("3: f is not 0", 32, x.count(1));
        same("3: takes all", true, x.condition(1, 5, 5, 0, 0));
        same("3: none left", 0, x.count(1));
        same("3: none to take", false, x.condition(1, 0, 0, 0, 1));
    }

    private static int left(int from, int to, int kind, int v) {
        EncodingChecks x = new EncodingChecks(16);
        x.encoding(0L, 0L);
        boolean took = x.condition(0, from, to, kind, v);
        same("3: whether words went", x.count(0) < 65536, took);
        return x.count(0);
    }

    private static void promise3Kinds() {
        same("3: is v", 4096, left(4, 7, 0, 9));
        same("3: is v, too great", 0, left(4, 7, 0, 16));
        same("3: is not v", 65536 - 4096, left(4, 7, 1, 9));
        same("3: is not v, too great", 65536, left(4, 7, 1, 16));
        same("3: below v", 1000, left(0, 15, 2, 1000));
        same("3: below 0", 0, left(0, 15, 2, 0));
        same("3: below the greatest", 65535, left(0, 15, 2, 65535));
        same("3: above v", 65535 - 1000, left(0, 15, 3, 1000));
        same("3: above the greatest", 0, left(0, 15, 3, 65535));
        same("3: powers up to 0", 0, left(0, 15, 4, 0));
        same("3: powers up to 1", 1, left(0, 15, 4, 1));
        same("3: powers up to 7", 3, left(0, 15, 4, 7));
        same("3: powers up to 8", 4, left(0, 15, 4, 8));
        same("3: powers up to 65535", 16, left(0, 15, 4, 65535));
        same("3: powers in a field", 5 * 2048, left(3, 7, 4, 65535));
        same("3: even, not below 0", 32768, left(0, 15, 5, 0));
        same("3: even, not below 3", 6 * 4096, left(2, 5, 5, 3));
        same("3: even, not below 4", 6 * 4096, left(2, 5, 5, 4));
        same("3: even, not below the greatest", 0, left(0, 15, 5, 65535));
        same("3: one bit", 32768, left(15, 15, 0, 1));
    }

    private static void promise4Operand() {
        EncodingChecks x = new EncodingChecks(10);
        x.encoding(0b1100000000L, 0L);
        x.encoding(0L, 0L);
        same("4: all new", 4, x.operand(0, 2, 5));
        same("4: some had", 2, x.operand(0, 4, 7));
        same("4: all had", 0, x.operand(0, 2, 7));
        same("4: fixed bits count, too", 2, x.operand(0, 7, 9));
        same("4: one bit", 1, x.operand(0, 0, 0));
        same("4: another encoding's own", 10, x.operand(1, 0, 9));
        iae("4: from below 0", () -> x.operand(0, -1, 2));
        iae("4: to from W on", () -> x.operand(0, 3, 10));
        iae("4: from above to", () -> x.operand(0, 2, 1));
        same("4: refused ones leave bits", 1, x.operand(0, 0, 1));
        same("4: takes no words", 256, x.count(0));
    }

    private static void promise5Needs() {
        EncodingChecks x = new EncodingChecks(3);
        x.encoding(0L, 0L);
        x.encoding(0L, 0L);
        same("5: none before", 0, x.needs(0, 255));
        same("5: those before", 255, x.needs(0, 6));
        iae("5: others", () -> x.needs(0, 256));
        iae("5: below 0", () -> x.needs(0, -1));
        iae("5: the lowest number", () -> x.needs(0, Integer.MIN_VALUE));
        same("5: in place of those before", 6, x.needs(0, 1));
        same("5: then", 1, x.needs(0, 0));
        same("5: another encoding's own", 0, x.needs(1, 0));
    }

    private static void promise6Clear() {
        EncodingChecks x = new EncodingChecks(7);
        same("6: nothing there", 0, x.clear());
        x.encoding(3L, 1L);
        x.encoding(7L, 1L);
        x.needs(0, 9);
        x.operand(0, 2, 4);
        for (int i = 0; i < 4; i++) {
            x.condition(0, 5, 6, 1, 0);
        }
        same("6: gaps before", 100, x.gaps());
        same("6: there were", 2, x.clear());
        same("6: none left", 0, x.size(0));
        same("6: W stays", 7, x.size(1));
        same("6: all words are gaps", 128, x.gaps());
        same("6: no pairs", 0, x.pairs());
        ioobe("6: no encoding 0", () -> x.count(0));
        same("6: numbers from 0", 0, x.encoding(1L, 1L));
        same("6: no needs are left", 0, x.needs(0, 0));
        same("6: no conditions and operands are left", 6, x.meaningless(0));
        same("6: no words went", 64, x.count(0));
        same("6: room for conditions", true, x.condition(0, 1, 1, 0, 1));
        same("6: again", 1, x.clear());
    }

    /** Of 4 bits: 0 has 8..15, 1 has 12..15, 2 the odd ones, 3 none, 4 has 12..15, too. */
    private static EncodingChecks five() {
        EncodingChecks x = new EncodingChecks(4);
        x.encoding(8L, 8L);
        x.encoding(12L, 12L);
        x.encoding(1L, 1L);
        x.encoding(0L, 0L);
        x.condition(3, 0, 3, 2, 0);
        x.encoding(12L, 12L);
        return x;
    }

    private static void promise7Pairs() {
        EncodingChecks x = new EncodingChecks(4);
        same("7: none", 0, x.pairs());
        x.encoding(0L, 0L);
        same("7: one makes no pair", 0, x.pairs());
        EncodingChecks y = five();
        same("7: pairs", 6, y.pairs());
        y.needs(0, 1);
        y.needs(1, 2);
        same("7: variants do not matter", 6, y.pairs());
        y.condition(2, 3, 3, 0, 0);
        same("7: after a condition", 3, y.pairs());
    }

    private static void promise8Pair() {
        EncodingChecks x = five();
        int[][] due = {{0, 1, 12, 4}, {0, 2, 9, 4}, {0, 4, 12, 4}, {1, 2, 13, 2}, {1, 4, 12, 4}, {2, 4, 13, 2}};
        for (int k = 0; k < due.length; k++) {
            for (int which = 0; which < 4; which++) {
                same("8: pair " + k + ", " + which, due[k][which], x.pair(k, which));
            }
        }
        ioobe("8: no such pair", () -> x.pair(6, 0));
        ioobe("8: pair below 0", () -> x.pair(-1, 0));
        ioobe("8: no such which", () -> x.pair(0, 4));
        ioobe("8: which below 0", () -> x.pair(0, -1));
        ioobe("8: the greatest number", () -> x.pair(Integer.MAX_VALUE, 3));
        ioobe("8: no pairs", () -> new EncodingChecks(3).pair(0, 0));
    }

    private static void promise9Alias() {
        EncodingChecks x = five();
        same("9: lies in", 2, x.alias(1, 0));
        same("9: has in it", 3, x.alias(0, 1));
        same("9: same", 1, x.alias(1, 4));
        same("9: same, the other way", 1, x.alias(4, 1));
        same("9: itself", 1, x.alias(0, 0));
        same("9: crossing", 4, x.alias(0, 2));
        same("9: without words", 0, x.alias(3, 0));
        same("9: beside one without words", 0, x.alias(0, 3));
        same("9: itself without words", 0, x.alias(3, 3));
        x.encoding(8L, 0L);
        same("9: nothing in common", 0, x.alias(0, 5));
        ioobe("9: no such a", () -> x.alias(6, 0));
        ioobe("9: no such b", () -> x.alias(0, 6));
        ioobe("9: a below 0", () -> x.alias(-1, 0));
        ioobe("9: b below 0", () -> x.alias(0, -1));
    }

    private static void promise10Clashes() {
        EncodingChecks x = five();
        same("10: without variants", 3, x.clashes(0));
        same("10: all variants", 3, x.clashes(255));
        x.needs(2, 5);
        same("10: one is not present", 0, x.clashes(0));
        same("10: some of its variants only", 0, x.clashes(4 + 2));
        same("10: all of its variants", 3, x.clashes(5));
        x.needs(1, 8);
        same("10: one pair fewer", 2, x.clashes(5));
        same("10: both present", 3, x.clashes(13));
        iae("10: others", () -> x.clashes(256));
        iae("10: below 0", () -> x.clashes(-1));
        same("10: no encodings", 0, new EncodingChecks(9).clashes(255));
    }

    private static void promise11Worst() {
        same("11: no encodings", 0, new EncodingChecks(9).worst());
        EncodingChecks x = five();
        same("11: no needs", 0, x.worst());
        x.needs(2, 128);
        same("11: the highest variant", 128, x.worst());
        x.needs(1, 2);
        same("11: several needs", 130, x.worst());
        same("11: twice", 130, x.worst());
        x.needs(3, 64);
        same("11: one that clashes with none", 130, x.worst());
        x.condition(2, 3, 3, 0, 0);
        same("11: no clashes", 0, x.worst());
        for (int variant = 0; variant < 8; variant++) {
            EncodingChecks y = new EncodingChecks(3);
            y.encoding(5L, 1L);
            y.encoding(6L, 2L);
            y.encoding(5L, 5L);
            y.encoding(6L, 6L);
            y.needs(3, 1 << variant);
            same("11: more pairs with variant " + variant, 1 << variant, y.worst());
        }
    }

    private static void promise12Meaningless() {
        EncodingChecks x = new EncodingChecks(12);
        x.encoding(0xC00L, 0x400L);
        same("12: free", 10, x.meaningless(0));
        x.condition(0, 0, 1, 2, 65535);
        same("12: of a condition, though it takes nothing", 8, x.meaningless(0));
        x.operand(0, 1, 3);
        same("12: of an operand", 6, x.meaningless(0));
        x.operand(0, 8, 11);
        same("12: fixed ones do not count twice", 4, x.meaningless(0));
        x.condition(0, 4, 7, 0, 0);
        same("12: none", 0, x.meaningless(0));
        x.encoding(0L, 0L);
        same("12: all", 12, x.meaningless(1));
        ioobe("12: no such encoding", () -> x.meaningless(2));
        ioobe("12: below 0", () -> x.meaningless(-1));
    }

    private static void promise13Idle() {
        EncodingChecks x = new EncodingChecks(16);
        x.encoding(0x4001L, 0L);
        x.condition(0, 2, 6, 1, 0);
        x.operand(0, 8, 12);
        same("13: first", 1, x.idle(0, 0));
        same("13: second", 7, x.idle(0, 1));
        same("13: third", 13, x.idle(0, 2));
        same("13: last", 15, x.idle(0, 3));
        iae("13: no more", () -> x.idle(0, 4));
        iae("13: below 0", () -> x.idle(0, -1));
        ioobe("13: no such encoding", () -> x.idle(1, 0));
        ioobe("13: IndexOutOfBoundsException first", () -> x.idle(1, -1));
    }

    private static void promise14Count() {
        EncodingChecks x = new EncodingChecks(16);
        x.encoding(0L, 0L);
        x.encoding(0xFFFFL, 0xFFFFL);
        x.encoding(0x8421L, 0x8020L);
        same("14: all words", 65536, x.count(0));
        same("14: one", 1, x.count(1));
        same("14: free bits", 4096, x.count(2));
        x.condition(2, 0, 4, 4, 31);
        same("14: a condition over fixed bits", 4 * 256, x.count(2));
        ioobe("14: no such encoding", () -> x.count(3));
        ioobe("14: NONE is none", () -> x.count(-1));
    }

    private static void promise15Gaps() {
        EncodingChecks x = new EncodingChecks(9);
        same("15: all", 512, x.gaps());
        x.encoding(0x100L, 0L);
        same("15: half", 256, x.gaps());
        x.encoding(0x1L, 0L);
        same("15: words of two count once", 128, x.gaps());
        x.needs(0, 1);
        same("15: variants do not matter", 128, x.gaps());
        x.condition(0, 0, 8, 0, 1);
        same("15: words come back", 255, x.gaps());
        x.encoding(0L, 0L);
        same("15: none", 0, x.gaps());
    }

    private static void promise16Blocks() {
        EncodingChecks x = new EncodingChecks(16);
        same("16: all words are one block", 1, x.blocks(EncodingChecks.NONE));
        x.encoding(1L, 1L);
        same("16: every other word", 32768, x.blocks(0));
        same("16: of none", 32768, x.blocks(-1));
        x.encoding(0L, 0L);
        same("16: all words", 1, x.blocks(1));
        same("16: no words of none", 0, x.blocks(-1));
        x.condition(1, 0, 15, 3, 0);
        same("16: all but the lowest", 16, x.blocks(1));
        x.condition(1, 0, 15, 2, 65535);
        same("16: and but the highest", 30, x.blocks(1));
        x.condition(1, 0, 0, 0, 2);
        same("16: no words", 0, x.blocks(1));
        x.encoding(0x40L, 0x40L);
        same("16: every other chunk", 512, x.blocks(2));
        ioobe("16: no such encoding", () -> x.blocks(3));
        ioobe("16: below NONE", () -> x.blocks(-2));
        for (int bits = 1; bits <= 16; bits++) {
            EncodingChecks y = new EncodingChecks(bits);
            y.encoding(0L, 0L);
            same("16: all of " + bits + " bits", 1, y.blocks(0));
            same("17: all of " + bits + " bits", bits, y.block(0, 0, 1));
        }
    }

    private static void promise17Block() {
        EncodingChecks x = new EncodingChecks(8);
        same("17: of none, lowest", 0, x.block(-1, 0, 0));
        same("17: of none, free", 8, x.block(-1, 0, 1));
        x.encoding(0L, 0L);
        x.condition(0, 0, 7, 3, 2);
        x.condition(0, 0, 7, 2, 201);
        int[][] due = {{3, 0}, {4, 2}, {8, 3}, {16, 4}, {32, 5}, {64, 6}, {128, 6}, {192, 3}, {200, 0}};
        same("17: how many", due.length, x.blocks(0));
        for (int k = 0; k < due.length; k++) {
            same("17: lowest of " + k, due[k][0], x.block(0, k, 0));
            same("17: free of " + k, due[k][1], x.block(0, k, 1));
        }
        iae("17: no such block", () -> x.block(0, due.length, 0));
        iae("17: block below 0", () -> x.block(0, -1, 0));
        iae("17: no such what", () -> x.block(0, 0, 2));
        iae("17: what below 0", () -> x.block(0, 0, -1));
        iae("17: no such block of none", () -> x.block(-1, 99, 1));
        ioobe("17: no such encoding", () -> x.block(1, 0, 0));
        ioobe("17: IndexOutOfBoundsException first", () -> x.block(-2, -1, 7));
        same("17: of none after it", 201, x.block(-1, 2, 0));
        blocksGreaterThanSixtyFour();
    }

    private static void blocksGreaterThanSixtyFour() {
        EncodingChecks x = new EncodingChecks(12);
        x.encoding(0L, 0L);
        x.condition(0, 0, 11, 3, 63);
        x.condition(0, 0, 11, 2, 3585);
        int[][] due = {{64, 6}, {128, 7}, {256, 8}, {512, 9}, {1024, 10}, {2048, 10}, {3072, 9}, {3584, 0}};
        same("17: how many great ones", due.length, x.blocks(0));
        for (int k = 0; k < due.length; k++) {
            same("17: lowest of great " + k, due[k][0], x.block(0, k, 0));
            same("17: free of great " + k, due[k][1], x.block(0, k, 1));
        }
    }

    private static void promise18Decode() {
        EncodingChecks x = five();
        same("18: of none", -1, x.decode(0));
        same("18: of one", 0, x.decode(8));
        same("18: crossing: the lowest number", 0, x.decode(9));
        same("18: lies in the other, the lower of the same", 1, x.decode(12));
        same("18: in no one that lies in all", 0, x.decode(13));
        x.encoding(15L, 13L);
        same("18: one that lies in all", 5, x.decode(13));
        same("18: another word", 0, x.decode(15));
        iae("18: above the words", () -> x.decode(16));
        iae("18: below 0", () -> x.decode(-1));
        EncodingChecks y = new EncodingChecks(16);
        y.encoding(0x8000L, 0x8000L);
        y.needs(0, 255);
        same("18: the greatest word, whatever it needs", 0, y.decode(65535));
        iae("18: above the greatest", () -> y.decode(65536));
    }

    private static void promise19Order() {
        EncodingChecks x = five();
        // 3 lies in all others; 1 and 4 lie in 0; 2 crosses them.
        int[] due = {3, 1, 2, 4, 0};
        for (int k = 0; k < due.length; k++) {
            same("19: place " + k, due[k], x.order(k));
        }
        ioobe("19: no such place", () -> x.order(5));
        ioobe("19: below 0", () -> x.order(-1));
        ioobe("19: no encodings", () -> new EncodingChecks(2).order(0));
        EncodingChecks y = new EncodingChecks(6);
        for (int i = 0; i < 40; i++) {
            y.encoding(0L, 0L);
            y.condition(i, 0, 5, 2, 40 - i);
        }
        for (int i = 0; i < 40; i++) {
            same("19: a chain", 39 - i, y.order(i));
        }
    }

    private static void promise20Size() {
        EncodingChecks x = new EncodingChecks(11);
        x.encoding(0L, 0L);
        x.encoding(0L, 0L);
        same("20: encodings", 2, x.size(0));
        same("20: W", 11, x.size(1));
        same("20: another", -1, x.size(2));
        same("20: below 0", -1, x.size(-1));
        same("20: NONE", -1, EncodingChecks.NONE);
    }

    private static void noSuchEncodingComesFirst() {
        EncodingChecks x = new EncodingChecks(5);
        x.encoding(0L, 0L);
        for (int e : new int[] {1, 40, Integer.MAX_VALUE, Integer.MIN_VALUE}) {
            ioobe("3: no such encoding", () -> x.condition(e, 9, 1, 9, -5));
            ioobe("4: no such encoding", () -> x.operand(e, 9, 1));
            ioobe("5: no such encoding", () -> x.needs(e, 512));
            ioobe("9: no such encoding", () -> x.alias(e, e));
            ioobe("12: no such encoding", () -> x.meaningless(e));
            ioobe("13: no such encoding", () -> x.idle(e, -7));
            ioobe("14: no such encoding", () -> x.count(e));
            ioobe("16: no such encoding", () -> x.blocks(e));
            ioobe("17: no such encoding", () -> x.block(e, -7, 7));
        }
        ioobe("3: -1 is no encoding", () -> x.condition(-1, 0, 0, 0, 0));
        ioobe("4: -1 is no encoding", () -> x.operand(-1, 0, 0));
        ioobe("5: -1 is no encoding", () -> x.needs(-1, 0));
        ioobe("13: -1 is no encoding", () -> x.idle(-1, 0));
    }
}
