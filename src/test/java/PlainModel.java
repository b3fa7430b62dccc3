import java.util.ArrayList;
import java.util.Arrays;
import java.util.List;

/** The document word by word, without regard to speed: what EncodingChecks has to answer. */
final class PlainModel {
    private static final class One {
        boolean[] words;
        boolean[] free;
        boolean[] ofCondition;
        boolean[] ofOperand;
        int conditions;
        int needs;
    }

    private final int w;
    private final int all;
    private final List<One> ones = new ArrayList<>();

    PlainModel(int bits) {
        w = (int) (1 + Math.floorMod((long) bits - 1, 16L));
        all = 1 << w;
    }

    private One get(int e) {
        if (e < 0 || e >= ones.size()) {
            throw new IndexOutOfBoundsException();
        }
        return ones.get(e);
    }

    private static void argument(boolean right) {
        if (!right) {
            throw new IllegalArgumentException();
        }
    }

    private static void index(boolean right) {
        if (!right) {
            throw new IndexOutOfBoundsException();
        }
    }

    private void field(int from, int to) {
        argument(0 <= from && from <= to && to < w);
    }

    private static void variantsOnly(int variants) {
        argument(0 <= variants && variants <= 255);
    }

    int encoding(long mask, long value) {
        argument(0 <= mask && mask < all && 0 <= value && value < all && (mask | value) == mask);
        if (ones.size() == 40) {
            throw new UnsupportedOperationException();
        }
        One one = new One();
        one.words = new boolean[all];
        for (int word = 0; word < all; word++) {
            one.words[word] = (word & mask) == value;
        }
        one.free = new boolean[w];
        one.ofCondition = new boolean[w];
        one.ofOperand = new boolean[w];
        for (int bit = 0; bit < w; bit++) {
            one.free[bit] = (mask >> bit & 1) == 0;
        }
        ones.add(one);
        return ones.size() - 1;
    }

    private static boolean holds(int f, int kind, int v) {
        if (kind == 4) {
            for (int power = 1; power <= v; power *= 2) {
                if (f == power) {
                    return true;
                }
            }
            return false;
        }
        boolean[] byKind = {f == v, f != v, f < v, f > v, false, f >= v && f % 2 == 0};
        return byKind[kind];
    }

    boolean condition(int encoding, int from, int to, int kind, int v) {
        One one = get(encoding);
        field(from, to);
        argument(kind >= 0 && kind <= 5 && v >= 0 && v <= 65535);
        if (one.conditions == 4) {
            throw new UnsupportedOperationException();
        }
        one.conditions++;
        Arrays.fill(one.ofCondition, from, to + 1, true);
        boolean takes = false;
        for (int word = 0; word < all; word++) {
            int f = word % (1 << (to + 1)) / (1 << from);
            if (one.words[word] && !holds(f, kind, v)) {
                one.words[word] = false;
                takes = true;
            }
        }
        return takes;
    }

    int operand(int encoding, int from, int to) {
        One one = get(encoding);
        field(from, to);
        int fresh = 0;
        for (int bit = from; bit <= to; bit++) {
            fresh += one.ofOperand[bit] ? 0 : 1;
            one.ofOperand[bit] = true;
        }
        return fresh;
    }

    int needs(int encoding, int variants) {
        One one = get(encoding);
        variantsOnly(variants);
        int before = one.needs;
        one.needs = variants;
        return before;
    }

    int clear() {
        int before = ones.size();
        ones.clear();
        return before;
    }

    private int common(One a, One b) {
        int found = 0;
        for (int word = 0; word < all; word++) {
            found += a.words[word] && b.words[word] ? 1 : 0;
        }
        return found;
    }

    private boolean liesIn(One a, One b) {
        for (int word = 0; word < all; word++) {
            if (a.words[word] && !b.words[word]) {
                return false;
            }
        }
        return true;
    }

    private List<int[]> pairList() {
        List<int[]> list = new ArrayList<>();
        for (int a = 0; a < ones.size(); a++) {
            for (int b = a + 1; b < ones.size(); b++) {
                if (common(ones.get(a), ones.get(b)) > 0) {
                    list.add(new int[] {a, b});
                }
            }
        }
        return list;
    }

    int pairs() {
        return pairList().size();
    }

    int pair(int k, int which) {
        List<int[]> list = pairList();
        index(k >= 0 && k < list.size() && which >= 0 && which <= 3);
        One a = ones.get(list.get(k)[0]);
        One b = ones.get(list.get(k)[1]);
        if (which == 3) {
            return common(a, b);
        }
        if (which == 2) {
            int word = 0;
            while (!(a.words[word] && b.words[word])) {
                word++;
            }
            return word;
        }
        return list.get(k)[which];
    }

    int alias(int a, int b) {
        One first = get(a);
        One second = get(b);
        if (common(first, second) == 0) {
            return 0;
        }
        if (Arrays.equals(first.words, second.words)) {
            return 1;
        }
        return liesIn(first, second) ? 2 : liesIn(second, first) ? 3 : 4;
    }

    private List<int[]> clashList() {
        List<int[]> list = pairList();
        list.removeIf(p -> alias(p[0], p[1]) != 4);
        return list;
    }

    private int present(List<int[]> list, int variants) {
        int found = 0;
        for (int[] p : list) {
            boolean first = (ones.get(p[0]).needs & variants) == ones.get(p[0]).needs;
            boolean second = (ones.get(p[1]).needs & variants) == ones.get(p[1]).needs;
            found += first && second ? 1 : 0;
        }
        return found;
    }

    int clashes(int variants) {
        variantsOnly(variants);
        return present(clashList(), variants);
    }

    int worst() {
        List<int[]> list = clashList();
        int worst = 0;
        for (int set = 255; set >= 0; set--) {
            if (present(list, set) >= present(list, worst)) {
                worst = set;
            }
        }
        return worst;
    }

    private List<Integer> idleList(int encoding) {
        One one = get(encoding);
        List<Integer> list = new ArrayList<>();
        for (int bit = 0; bit < w; bit++) {
            if (one.free[bit] && !one.ofCondition[bit] && !one.ofOperand[bit]) {
                list.add(bit);
            }
        }
        return list;
    }

    int meaningless(int encoding) {
        return idleList(encoding).size();
    }

    int idle(int encoding, int k) {
        List<Integer> list = idleList(encoding);
        argument(k >= 0 && k < list.size());
        return list.get(k);
    }

    int count(int encoding) {
        return common(get(encoding), get(encoding));
    }

    private boolean[] wordsOf(int encoding) {
        if (encoding != -1) {
            return get(encoding).words;
        }
        boolean[] none = new boolean[all];
        Arrays.fill(none, true);
        for (One one : ones) {
            for (int word = 0; word < all; word++) {
                none[word] &= !one.words[word];
            }
        }
        return none;
    }

    int gaps() {
        int found = 0;
        for (boolean is : wordsOf(-1)) {
            found += is ? 1 : 0;
        }
        return found;
    }

    /** Halves what is not all in the set and not all outside: the blocks, lower words first. */
    private void gather(boolean[] set, int lowest, int free, List<int[]> list) {
        boolean every = true;
        boolean any = false;
        for (int word = lowest; word < lowest + (1 << free); word++) {
            every &= set[word];
            any |= set[word];
        }
        if (every) {
            list.add(new int[] {lowest, free});
        } else if (any) {
            gather(set, lowest, free - 1, list);
            gather(set, lowest + (1 << (free - 1)), free - 1, list);
        }
    }

    private List<int[]> blockList(int encoding) {
        List<int[]> list = new ArrayList<>();
        gather(wordsOf(encoding), 0, w, list);
        return list;
    }

    int blocks(int encoding) {
        return blockList(encoding).size();
    }

    int block(int encoding, int k, int what) {
        List<int[]> list = blockList(encoding);
        argument(k >= 0 && k < list.size() && what >= 0 && what <= 1);
        return list.get(k)[what];
    }

    int decode(int word) {
        argument(word >= 0 && word < all);
        List<Integer> having = new ArrayList<>();
        for (int e = 0; e < ones.size(); e++) {
            if (ones.get(e).words[word]) {
                having.add(e);
            }
        }
        for (int e : having) {
            boolean inAll = true;
            for (int o : having) {
                inAll &= liesIn(ones.get(e), ones.get(o));
            }
            if (inAll) {
                return e;
            }
        }
        return having.isEmpty() ? -1 : having.get(0);
    }

    int order(int k) {
        index(k >= 0 && k < ones.size());
        List<Integer> rest = new ArrayList<>();
        for (int e = 0; e < ones.size(); e++) {
            rest.add(e);
        }
        int next = -1;
        for (int place = 0; place <= k; place++) {
            next = -1;
            for (int e : rest) {
                boolean may = true;
                for (int o : rest) {
                    may &= !(liesIn(ones.get(o), ones.get(e)) && !liesIn(ones.get(e), ones.get(o)));
                }
                if (may && next == -1) {
                    next = e;
                }
            }
            rest.remove(Integer.valueOf(next));
        }
        return next;
    }

    int size(int what) {
        return what == 0 ? ones.size() : what == 1 ? w : -1;
    }
}
