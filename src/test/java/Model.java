import java.math.BigInteger;
import java.util.ArrayList;
import java.util.HashMap;
import java.util.HashSet;
import java.util.List;
import java.util.Map;
import java.util.Set;

/**
 * The document read word by word, slowly: every set is looked at anew, weights are multiplied from
 * the first on, gains are whole fractions. It shares nothing with the program that it is held to.
 */
final class Model {
    static final int BAD = -1, STATE = -2, FULL = -3, NONE = -9;
    static final int TEXT = 1, FOE = 2, ANCHOR = 3, FRESH = 4;

    static final class Q {
        int kind, group, content, limit, shown;
        int[] chance = new int[6];
    }

    static final class Asked {
        final int question;
        final boolean right;

        Asked(int question, boolean right) {
            this.question = question;
            this.right = right;
        }
    }

    final List<Q> bank = new ArrayList<>();
    int length = 4, a = 9, b = 10, over = 0;
    final int[] low = new int[3];
    final int[] high = {6, 6, 6};
    final int[] weight = {1, 1, 1, 1, 1, 1};
    List<Asked> sitting = null;
    private final Map<Set<Integer>, Set<Integer>> mayMemo = new HashMap<>();

    boolean in(int v, int from, int to) {
        return from <= v && v <= to;
    }

    boolean isQuestion(int q) {
        return in(q, 0, bank.size() - 1);
    }

    int question(int kind, int group, int content, int limit, int chances) {
        String digits = Integer.toString(chances);
        if (!in(kind, 0, 4) || !in(group, 0, 2) || !in(content, 0, 2) || !in(limit, 1, 99)
                || !digits.matches("[1-4]{6}")) return BAD;
        if (sitting != null) return STATE;
        if (bank.size() == 10) return FULL;
        Q q = new Q();
        q.kind = kind;
        q.group = group;
        q.content = content;
        q.limit = limit;
        for (int i = 0; i < 6; i++) q.chance[i] = digits.charAt(i) - '0';
        bank.add(q);
        return bank.size() - 1;
    }

    int set(int question, int what, int v) {
        if (!isQuestion(question)) return BAD;
        boolean good = what == 0 && in(v, 0, 4) || what == 1 && in(v, 0, 2)
                || what == 2 && in(v, 0, 2) || what == 3 && in(v, 1, 99);
        if (!good) return BAD;
        if (sitting != null) return STATE;
        int old = about(question, what);
        Q q = bank.get(question);
        if (what == 0) q.kind = v;
        if (what == 1) q.group = v;
        if (what == 2) q.content = v;
        if (what == 3) q.limit = v;
        return old;
    }

    int length(int n) {
        if (!in(n, 1, 6)) return BAD;
        if (sitting != null) return STATE;
        int old = length;
        length = n;
        return old;
    }

    int share(int content, int l, int h) {
        if (!in(content, 0, 2) || !in(l, 0, 6) || !in(h, 0, 6) || l > h) return BAD;
        if (sitting != null) return STATE;
        int old = low[content];
        low[content] = l;
        high[content] = h;
        return old;
    }

    int sure(int x, int y) {
        if (!in(x, 1, 20) || !in(y, 1, 20) || x > y || 2 * x <= y) return BAD;
        if (sitting != null) return STATE;
        int old = a;
        a = x;
        b = y;
        return old;
    }

    int weight(int step, int v) {
        if (!in(step, 0, 5) || !in(v, 1, 3)) return BAD;
        if (sitting != null) return STATE;
        int old = weight[step];
        weight[step] = v;
        return old;
    }

    int about(int question, int what) {
        if (!isQuestion(question) || !in(what, 0, 10)) return BAD;
        Q q = bank.get(question);
        switch (what) {
            case 0: return q.kind;
            case 1: return q.group;
            case 2: return q.content;
            case 3: return q.limit;
            case 4: return q.shown;
            default: return q.chance[what - 5];
        }
    }

    /** Whether a set is fit where those of the second set were asked in the sitting. */
    boolean fit(Set<Integer> set, Set<Integer> asked) {
        if (set.size() > length) return false;
        int[] share = new int[3];
        for (int i : set) share[bank.get(i).content]++;
        for (int c = 0; c < 3; c++) if (!in(share[c], low[c], high[c])) return false;
        for (int i = 0; i < bank.size(); i++) {
            Q q = bank.get(i);
            if (q.kind == ANCHOR && !set.contains(i)) return false;
            if (set.contains(i) && !asked.contains(i) && q.shown >= q.limit) return false;
            for (int j = 0; j < bank.size(); j++) {
                Q p = bank.get(j);
                if (i == j || p.group != q.group || p.kind != q.kind) continue;
                if (q.kind == FOE && set.contains(i) && set.contains(j)) return false;
                if (q.kind == TEXT && set.contains(i) != set.contains(j)) return false;
            }
        }
        return true;
    }

    List<Set<Integer>> fitSets(Set<Integer> asked) {
        List<Set<Integer>> all = new ArrayList<>();
        for (int m = 0; m < 1 << bank.size(); m++) {
            Set<Integer> set = new HashSet<>();
            for (int i = 0; i < bank.size(); i++) if ((m >> i & 1) == 1) set.add(i);
            if (fit(set, asked)) all.add(set);
        }
        return all;
    }

    Set<Integer> askedSet(List<Asked> list) {
        Set<Integer> set = new HashSet<>();
        for (Asked x : list) set.add(x.question);
        return set;
    }

    /** What may be asked where those were; within one sitting it hangs on nothing else. */
    Set<Integer> mayOf(Set<Integer> asked) {
        Set<Integer> known = mayMemo.get(asked);
        if (known != null) return known;
        Set<Integer> may = new HashSet<>();
        for (Set<Integer> set : fitSets(asked)) {
            if (!set.containsAll(asked)) continue;
            for (int i : set) if (!asked.contains(i)) may.add(i);
        }
        for (int group = 0; group < 3; group++) {
            boolean some = false;
            int least = -1;
            for (int i = bank.size() - 1; i >= 0; i--) {
                if (bank.get(i).kind != TEXT || bank.get(i).group != group) continue;
                if (asked.contains(i)) some = true;
                else least = i;
            }
            if (some && least >= 0) {
                int only = least;
                may.removeIf(i -> i != only);
            }
        }
        mayMemo.put(asked, may);
        return may;
    }

    Set<Integer> mayNow() {
        return mayOf(askedSet(sitting));
    }

    int[] weights(List<Asked> list) {
        int[] w = weight.clone();
        for (Asked x : list) {
            Q q = bank.get(x.question);
            if (q.kind == FRESH) continue;
            for (int s = 0; s < 6; s++) w[s] *= x.right ? q.chance[s] : 5 - q.chance[s];
        }
        return w;
    }

    boolean oddsHold(int[] w) {
        for (int x : w) if ((long) x * b >= (long) a * sum(w)) return true;
        return false;
    }

    int sum(int[] w) {
        int sum = 0;
        for (int x : w) sum += x;
        return sum;
    }

    int doneNow() {
        Set<Integer> asked = askedSet(sitting);
        if (fit(asked, asked) && oddsHold(weights(sitting))) return 1;
        return mayNow().isEmpty() ? 2 : 0;
    }

    /** Top and bottom of a gain. */
    BigInteger[] gainOf(int question) {
        Q q = bank.get(question);
        int[] w = weights(sitting);
        if (q.kind == FRESH) {
            BigInteger[] f = squaresBySum(w, new int[] {1, 1, 1, 1, 1, 1});
            return new BigInteger[] {f[0].multiply(BigInteger.valueOf(5)), f[1]};
        }
        int[] wrong = new int[6];
        for (int s = 0; s < 6; s++) wrong[s] = 5 - q.chance[s];
        BigInteger[] r = squaresBySum(w, q.chance);
        BigInteger[] v = squaresBySum(w, wrong);
        return new BigInteger[] {
            r[0].multiply(v[1]).add(v[0].multiply(r[1])), r[1].multiply(v[1])};
    }

    BigInteger[] squaresBySum(int[] w, int[] times) {
        BigInteger squares = BigInteger.ZERO;
        BigInteger sum = BigInteger.ZERO;
        for (int s = 0; s < 6; s++) {
            BigInteger x = BigInteger.valueOf(w[s]).multiply(BigInteger.valueOf(times[s]));
            squares = squares.add(x.multiply(x));
            sum = sum.add(x);
        }
        return new BigInteger[] {squares, sum};
    }

    int compareGain(int x, int y) {
        BigInteger[] f = gainOf(x);
        BigInteger[] g = gainOf(y);
        return f[0].multiply(g[1]).compareTo(g[0].multiply(f[1]));
    }

    boolean reachFrom(List<Asked> list, int n) {
        if (oddsHold(weights(list))) return true;
        if (n == 0) return false;
        for (int q : mayOf(askedSet(list))) {
            boolean both = true;
            for (int right = 0; right < 2; right++) {
                List<Asked> longer = new ArrayList<>(list);
                longer.add(new Asked(q, right == 1));
                both = both && reachFrom(longer, n - 1);
            }
            if (both) return true;
        }
        return false;
    }

    int fit() {
        if (sitting != null) return STATE;
        return fitSets(new HashSet<>()).size();
    }

    int begin() {
        if (sitting != null || fit() == 0) return STATE;
        sitting = new ArrayList<>();
        mayMemo.clear();
        return mayNow().size();
    }

    int next() {
        if (sitting == null) return STATE;
        if (doneNow() != 0) return NONE;
        int best = NONE;
        for (int q = 0; q < bank.size(); q++) {
            if (!mayNow().contains(q)) continue;
            if (best == NONE || compareGain(q, best) > 0) best = q;
        }
        return best;
    }

    int answer(int question, boolean right) {
        if (!isQuestion(question)) return BAD;
        if (sitting == null || doneNow() != 0 || !mayNow().contains(question)) return STATE;
        sitting.add(new Asked(question, right));
        bank.get(question).shown++;
        return sitting.size();
    }

    int back() {
        if (sitting == null || sitting.isEmpty()) return STATE;
        bank.get(sitting.remove(sitting.size() - 1).question).shown--;
        return sitting.size();
    }

    int end() {
        if (sitting == null || doneNow() == 0) return STATE;
        int[] w = weights(sitting);
        int best = 5;
        for (int s = 4; s >= 0; s--) if (w[s] >= w[best]) best = s;
        sitting = null;
        over++;
        return best;
    }

    int quit() {
        if (sitting == null) return STATE;
        int size = sitting.size();
        for (Asked x : sitting) bank.get(x.question).shown--;
        sitting = null;
        return size;
    }

    int may(int question) {
        if (!isQuestion(question)) return BAD;
        if (sitting == null) return STATE;
        return mayNow().contains(question) ? 1 : 0;
    }

    int gain(int question, int other) {
        if (!isQuestion(question) || !isQuestion(other)) return -2;
        if (sitting == null) return -3;
        return compareGain(question, other);
    }

    int done() {
        return sitting == null ? STATE : doneNow();
    }

    int now(int step) {
        if (!in(step, 0, 5)) return BAD;
        return sitting == null ? STATE : weights(sitting)[step];
    }

    int asked(int i, int what) {
        if (i < 0 || !in(what, 0, 1)) return BAD;
        if (sitting == null) return STATE;
        if (i >= sitting.size()) return BAD;
        return what == 0 ? sitting.get(i).question : sitting.get(i).right ? 1 : 0;
    }

    int reach(int n) {
        if (!in(n, 0, 3)) return BAD;
        if (sitting == null) return STATE;
        return reachFrom(sitting, n) ? 1 : 0;
    }

    int count(int what) {
        boolean on = sitting != null;
        switch (what) {
            case 0: return bank.size();
            case 1: return length;
            case 2: return on ? 1 : 0;
            case 3: return on ? sitting.size() : 0;
            case 4: return over;
            case 5: return on ? mayNow().size() : 0;
            case 6: return a;
            case 7: return b;
            case 8: return on ? sum(weights(sitting)) : 0;
            default: return BAD;
        }
    }
}
