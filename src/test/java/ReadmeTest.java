/** The example of README.md, so that it does not tell what the class no longer answers. */
public final class ReadmeTest {
    private static final Checks CHECKS = new Checks();

    public static void main(String[] args) {
        EncodingChecks x = new EncodingChecks(8);
        int load = x.encoding(0b11000000L, 0b01000000L);
        int any = x.encoding(0b10000000L, 0b00000000L);
        CHECKS.same("condition", true, x.condition(load, 0, 3, 2, 10));
        CHECKS.same("operand", 4, x.operand(load, 0, 3));
        CHECKS.same("count", 40, x.count(load));
        CHECKS.same("alias", 2, x.alias(load, any));
        CHECKS.same("decode", load, x.decode(0b01000001));
        CHECKS.same("number of load", 0, load);
        CHECKS.same("meaningless", 2, x.meaningless(load));
        CHECKS.same("its first bit", 4, x.idle(load, 0));
        CHECKS.same("its second bit", 5, x.idle(load, 1));
        CHECKS.same("gaps", 128, x.gaps());
        CHECKS.same("block's lowest word", 128, x.block(EncodingChecks.NONE, 0, 0));
        CHECKS.same("block's free bits", 7, x.block(EncodingChecks.NONE, 0, 1));
        CHECKS.end();
    }
}
