import java.util.function.IntFunction;

/**
 * All that an object can be asked, as one text: two objects with the same text are in the same
 * state. For words of at most four bits and at most six encodings, so that the questions stay
 * within an object's 512 calls. The object is used up: some of its state shows only when it changes.
 */
final class Everything {
    private final EncodingChecks x;
    private final StringBuilder text = new StringBuilder();

    private Everything(EncodingChecks x) {
        this.x = x;
    }

    static String of(EncodingChecks x) {
        Everything all = new Everything(x);
        all.ask();
        all.useUp();
        return all.text.toString();
    }

    private void tell(String name, Object answer) {
        text.append(name).append(' ').append(answer).append('\n');
    }

    private void tellAll(String name, int many, IntFunction<Object> question) {
        for (int k = 0; k < many; k++) {
            tell(name + k, question.apply(k));
        }
    }

    private void ask() {
        int n = x.size(0);
        int pairs = x.pairs();
        tell("W", x.size(1));
        tell("encodings", n);
        tell("pairs", pairs);
        tell("worst", x.worst());
        tell("gaps", x.gaps());
        tellAll("order ", n, x::order);
        tellAll("count ", n, x::count);
        tellAll("decode ", 1 << x.size(1), x::decode);
        tellAll("clashes of one variant ", 8, k -> x.clashes(1 << k));
        for (int which = 0; which < 4; which++) {
            int w = which;
            tellAll("pair " + which + " of ", pairs, k -> x.pair(k, w));
        }
        for (int e = -1; e < n; e++) {
            askOne(e, n);
        }
    }

    private void askOne(int e, int n) {
        int blocks = x.blocks(e);
        tellAll("block's word of " + e + ": ", blocks, k -> x.block(e, k, 0));
        tellAll("block's bits of " + e + ": ", blocks, k -> x.block(e, k, 1));
        if (e >= 0) {
            tellAll("idle of " + e + ": ", x.meaningless(e), k -> x.idle(e, k));
            tellAll("alias of " + e + ": ", n, k -> x.alias(e, k));
        }
    }

    /** What an encoding needs, which bits no operand has, how many conditions it has room for. */
    private void useUp() {
        int n = x.size(0);
        int w = x.size(1);
        for (int e = 0; e < n; e++) {
            int it = e;
            tell("needs of " + e, x.needs(e, 0));
            tellAll("operand of " + e + ": ", w, bit -> x.operand(it, bit, bit));
            tellAll("condition of " + e + ": ", 5, k -> Checks.answer(() -> x.condition(it, 0, 0, 2, 2)));
        }
        tell("cleared", x.clear());
    }
}
