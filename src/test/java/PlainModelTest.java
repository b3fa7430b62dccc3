/** Long runs of calls, made by a fixed rule, beside the plain model: every answer and exception. */
public final class PlainModelTest {
    private static final Checks CHECKS = new Checks();

    private long state;

    private PlainModelTest(long seed) {
        state = seed;
    }

    public static void main(String[] args) {
        for (int run = 0; run < 600; run++) {
            new PlainModelTest(run).run(1 + run % 8, 512, run);
        }
        for (int run = 600; run < 660; run++) {
            new PlainModelTest(run).run(9 + run % 4, 300, run);
        }
        for (int run = 660; run < 684; run++) {
            new PlainModelTest(run).run(13 + run % 4, 100, run);
        }
        CHECKS.end();
    }

    /** A number 0 .. bound - 1; the same ones for the same seed, so that a failure comes again. */
    private int below(int bound) {
        state = state * 6364136223846793005L + 1442695040888963407L;
        return (int) ((state >>> 33) % bound);
    }

    private int near(int bound) {
        return below(12) == 0 ? below(bound + 6) - 3 : below(Math.max(1, bound));
    }

    private long mask(int w) {
        if (below(20) == 0) {
            return (1L << below(64)) | below(1 << w);
        }
        return below(1 << w) & below(1 << w) & (below(3) == 0 ? below(1 << w) : -1);
    }

    private int v(int w) {
        return below(15) == 0 ? below(70000) - 2000 : below(1 << (1 + below(w)));
    }

    private void run(int w, int calls, int run) {
        int bits = w + 16 * (below(5) - 2);
        EncodingChecks x = new EncodingChecks(bits);
        PlainModel y = new PlainModel(bits);
        // Most runs clear seldom, so that some of them come to forty encodings.
        int clearing = below(3) == 0 ? 8 : 200;
        for (int call = 0; call < calls; call++) {
            step(x, y, w, clearing, "run " + run + ", call " + call + ": ");
        }
    }

    private void both(String what, Checks.Call got, Checks.Call due) {
        CHECKS.same(what, Checks.answer(due), Checks.answer(got));
    }

    private void step(EncodingChecks x, PlainModel y, int w, int clearing, String at) {
        int n = y.size(0);
        int e = near(n);
        int kind = below(30);
        if (kind < 8) {
            change(x, y, w, at);
        } else if (kind < 12) {
            marks(x, y, e, w, at);
        } else if (kind < 20) {
            pairsAndOrder(x, y, e, n, at);
        } else if (kind < 29) {
            wordsAndBlocks(x, y, e, w, at);
        } else if (below(clearing) == 0) {
            both(at + "clear()", x::clear, y::clear);
        } else {
            int what = below(5) - 1;
            both(at + "size(" + what + ")", () -> x.size(what), () -> y.size(what));
        }
    }

    private void change(EncodingChecks x, PlainModel y, int w, String at) {
        if (below(2) == 0) {
            long m = mask(w);
            long v = below(15) == 0 ? below(1 << w) : m & below(1 << w);
            both(at + "encoding(" + m + ", " + v + ")", () -> x.encoding(m, v), () -> y.encoding(m, v));
            return;
        }
        int e = near(y.size(0));
        int from = near(w);
        int to = from + near(Math.max(1, w - from));
        int kind = near(6);
        int v = v(w);
        both(at + "condition(" + e + ", " + from + ", " + to + ", " + kind + ", " + v + ")",
                () -> x.condition(e, from, to, kind, v), () -> y.condition(e, from, to, kind, v));
    }

    private void marks(EncodingChecks x, PlainModel y, int e, int w, String at) {
        int from = near(w);
        int to = from + near(Math.max(1, Math.min(3, w - from)));
        int variants = below(10) == 0 ? below(600) - 100 : below(256) & below(256);
        int k = near(w);
        switch (below(4)) {
            case 0 -> both(at + "operand(" + e + ", " + from + ", " + to + ")",
                    () -> x.operand(e, from, to), () -> y.operand(e, from, to));
            case 1 -> both(at + "needs(" + e + ", " + variants + ")",
                    () -> x.needs(e, variants), () -> y.needs(e, variants));
            case 2 -> both(at + "meaningless(" + e + ")", () -> x.meaningless(e), () -> y.meaningless(e));
            default -> both(at + "idle(" + e + ", " + k + ")", () -> x.idle(e, k), () -> y.idle(e, k));
        }
    }

    private void pairsAndOrder(EncodingChecks x, PlainModel y, int e, int n, String at) {
        int k = near(n * n / 3 + 1);
        int which = near(4);
        int other = near(n);
        int variants = below(10) == 0 ? below(600) - 100 : below(256) | below(256);
        switch (below(6)) {
            case 0 -> both(at + "pairs()", x::pairs, y::pairs);
            case 1 -> both(at + "pair(" + k + ", " + which + ")", () -> x.pair(k, which), () -> y.pair(k, which));
            case 2 -> both(at + "alias(" + e + ", " + other + ")", () -> x.alias(e, other), () -> y.alias(e, other));
            case 3 -> both(at + "clashes(" + variants + ")", () -> x.clashes(variants), () -> y.clashes(variants));
            case 4 -> both(at + "worst()", x::worst, y::worst);
            default -> both(at + "order(" + e + ")", () -> x.order(e), () -> y.order(e));
        }
    }

    private void wordsAndBlocks(EncodingChecks x, PlainModel y, int e, int w, String at) {
        int of = below(3) == 0 ? -1 : e;
        int word = near(1 << w);
        int what = near(2);
        int most = of >= -1 && of < y.size(0) ? y.blocks(of) : 3;
        int k = near(most);
        switch (below(5)) {
            case 0 -> both(at + "count(" + e + ")", () -> x.count(e), () -> y.count(e));
            case 1 -> both(at + "gaps()", x::gaps, y::gaps);
            case 2 -> both(at + "blocks(" + of + ")", () -> x.blocks(of), () -> y.blocks(of));
            case 3 -> both(at + "block(" + of + ", " + k + ", " + what + ")",
                    () -> x.block(of, k, what), () -> y.block(of, k, what));
            default -> both(at + "decode(" + word + ")", () -> x.decode(word), () -> y.decode(word));
        }
    }
}
