/**
 * A ladder of questions: a bank of questions and rules, and sittings in which a pupil's step is
 * sought by asking, each time, the question that tells most.
 *
 * <p>A set of questions is an int with one bit a question: with ten questions at most, all sets can
 * be looked at when a sitting begins, and what may be asked is then read from a table.
 */
public final class QuestionLadder {
    public static final int BAD = -1, STATE = -2, FULL = -3, NONE = -9;

    // -1 is an answer of gain, so it tells its refusals one lower.
    private static final int GAIN_BAD = -2, GAIN_STATE = -3;

    private static final int STEPS = 6, GROUPS = 3, CONTENTS = 3;
    private static final int MOST_QUESTIONS = 10, MOST_SETS = 1 << MOST_QUESTIONS;
    private static final int LONGEST = 6, MOST_SHOWN = 99, FURTHEST = 3;
    private static final int MOST_WEIGHT = 3, MOST_SURE = 20;
    private static final int FIFTHS = 5, MOST_CHANCE = 4;

    private static final int PLAIN = 0, TEXT = 1, FOE = 2, ANCHOR = 3, FRESH = 4;

    // The facts of a question stand in its row as about numbers them.
    private static final int KIND = 0, GROUP = 1, CONTENT = 2, LIMIT = 3, SHOWN = 4, CHANCE = 5;
    private static final int FACTS = CHANCE + STEPS;

    private static final int NOT_DONE = 0, DONE_SURE = 1, DONE_SPENT = 2;

    private final Bank bank;
    private final Rules rules;
    private final FitSets sets;
    private final Sitting sitting;

    public QuestionLadder() {
        bank = new Bank();
        rules = new Rules();
        sets = new FitSets();
        sitting = new Sitting();
    }

    // ---- the bank

    public int question(int kind, int group, int content, int limit, int chances) {
        if (!Bank.canBe(KIND, kind) || !Bank.canBe(GROUP, group)) {
            return BAD;
        }
        if (!Bank.canBe(CONTENT, content) || !Bank.canBe(LIMIT, limit)) {
            return BAD;
        }
        if (!Bank.areChances(chances)) {
            return BAD;
        }
        if (sitting.underWay) {
            return STATE;
        }
        if (bank.size >= MOST_QUESTIONS) {
            return FULL;
        }
        int number = bank.add(chances);
        bank.put(number, KIND, kind);
        bank.put(number, GROUP, group);
        bank.put(number, CONTENT, content);
        bank.put(number, LIMIT, limit);
        return number;
    }

    public int set(int question, int what, int v) {
        if (!bank.has(question) || !Bank.canBe(what, v)) {
            return BAD;
        }
        if (sitting.underWay) {
            return STATE;
        }
        int old = bank.fact(question, what);
        bank.put(question, what, v);
        return old;
    }

    public int length(int n) {
        if (!isWithin(n, 1, LONGEST)) {
            return BAD;
        }
        if (sitting.underWay) {
            return STATE;
        }
        int old = rules.most;
        rules.most = n;
        return old;
    }

    public int share(int content, int low, int high) {
        if (!isWithin(content, 0, CONTENTS - 1)) {
            return BAD;
        }
        if (!isWithin(low, 0, LONGEST) || !isWithin(high, low, LONGEST)) {
            return BAD;
        }
        if (sitting.underWay) {
            return STATE;
        }
        int old = rules.lows[content];
        rules.lows[content] = low;
        rules.highs[content] = high;
        return old;
    }

    public int sure(int a, int b) {
        if (!isWithin(b, 1, MOST_SURE) || !isWithin(a, 1, b) || 2 * a <= b) {
            return BAD;
        }
        if (sitting.underWay) {
            return STATE;
        }
        int old = rules.sureOf;
        rules.sureOf = a;
        rules.sureIn = b;
        return old;
    }

    public int weight(int step, int v) {
        if (!isStep(step) || !isWithin(v, 1, MOST_WEIGHT)) {
            return BAD;
        }
        if (sitting.underWay) {
            return STATE;
        }
        int old = rules.firstWeights[step];
        rules.firstWeights[step] = v;
        return old;
    }

    // Promise 8 names BAD alone, so a sitting under way does not keep anyone from looking.
    public int about(int question, int what) {
        if (!bank.has(question) || !isWithin(what, 0, FACTS - 1)) {
            return BAD;
        }
        return bank.fact(question, what);
    }

    public int fit() {
        if (sitting.underWay) {
            return STATE;
        }
        return sets.findAll(bank, rules);
    }

    // ---- a sitting

    public int begin() {
        if (sitting.underWay || sets.findAll(bank, rules) == 0) {
            return STATE;
        }
        sets.spreadToParts();
        sitting.open(rules);
        return Integer.bitCount(askable());
    }

    public int next() {
        if (!sitting.underWay) {
            return STATE;
        }
        if (doneness() != NOT_DONE) {
            return NONE;
        }
        return mostTelling(askable());
    }

    public int answer(int question, boolean right) {
        if (!bank.has(question)) {
            return BAD;
        }
        if (!sitting.underWay || doneness() != NOT_DONE || !isIn(askable(), question)) {
            return STATE;
        }
        sitting.note(bank, question, right);
        bank.changeShown(question, 1);
        return sitting.total;
    }

    public int back() {
        if (!sitting.underWay || sitting.total <= 0) {
            return STATE;
        }
        bank.changeShown(sitting.takeLatest(), -1);
        return sitting.total;
    }

    public int end() {
        if (!sitting.underWay || doneness() == NOT_DONE) {
            return STATE;
        }
        sitting.underWay = false;
        sitting.over++;
        return likeliestStep(sitting.weights());
    }

    public int quit() {
        if (!sitting.underWay) {
            return STATE;
        }
        int total = sitting.total;
        for (int i = 0; i < total; i++) {
            bank.changeShown(sitting.takeLatest(), -1);
        }
        sitting.underWay = false;
        return total;
    }

    public int may(int question) {
        if (!bank.has(question)) {
            return BAD;
        }
        if (!sitting.underWay) {
            return STATE;
        }
        return asNumber(isIn(askable(), question));
    }

    public int gain(int question, int other) {
        if (!bank.has(question) || !bank.has(other)) {
            return GAIN_BAD;
        }
        if (!sitting.underWay) {
            return GAIN_STATE;
        }
        return compareGains(question, other);
    }

    public int done() {
        if (!sitting.underWay) {
            return STATE;
        }
        return doneness();
    }

    public int now(int step) {
        if (!isStep(step)) {
            return BAD;
        }
        if (!sitting.underWay) {
            return STATE;
        }
        return sitting.weights()[step];
    }

    public int asked(int i, int what) {
        if (i < 0 || !isWithin(what, 0, 1)) {
            return BAD;
        }
        if (!sitting.underWay) {
            return STATE;
        }
        if (i >= sitting.total || i >= LONGEST) {
            return BAD;
        }
        return what == 0 ? sitting.questions[i] : asNumber(sitting.rights[i]);
    }

    public int reach(int n) {
        if (!isWithin(n, 0, FURTHEST)) {
            return BAD;
        }
        if (!sitting.underWay) {
            return STATE;
        }
        return asNumber(canBeFound(this, sitting.askedSet, sitting.total, n));
    }

    public int count(int what) {
        switch (what) {
            case 0:
                return bank.size;
            case 1:
                return rules.most;
            case 2:
                return asNumber(sitting.underWay);
            case 3:
                return sitting.underWay ? sitting.total : 0;
            case 4:
                return sitting.over;
            case 5:
                return sitting.underWay ? Integer.bitCount(askable()) : 0;
            case 6:
                return rules.sureOf;
            case 7:
                return rules.sureIn;
            case 8:
                return sitting.underWay ? sumOf(sitting.weights()) : 0;
            default:
                return BAD;
        }
    }

    // ---- what the calls share

    private int askable() {
        return sets.askableBehind(sitting.askedSet);
    }

    private int doneness() {
        if (!sets.isFit(sitting.askedSet)) {
            return NOT_DONE;
        }
        if (rules.areSure(sitting.weights())) {
            return DONE_SURE;
        }
        return askable() == 0 ? DONE_SPENT : NOT_DONE;
    }

    private int mostTelling(int askable) {
        int best = NONE;
        for (int question = 0; question < bank.size; question++) {
            if (!isIn(askable, question)) {
                continue;
            }
            if (best == NONE || compareGains(question, best) > 0) {
                best = question;
            }
        }
        return best;
    }

    private int compareGains(int question, int other) {
        int[] weights = sitting.weights();
        int[] facts = bank.row(question);
        int[] others = bank.row(other);
        return compareFractions(gainTop(weights, facts), gainBottom(weights, facts),
                gainTop(weights, others), gainBottom(weights, others));
    }

    /** Whether the step is found for sure in so many more, behind the answers of the given row. */
    private static boolean canBeFound(QuestionLadder ladder, int askedSet, int row, int more) {
        if (ladder.rules.areSure(ladder.sitting.weightsBehind(row))) {
            return true;
        }
        if (more <= 0 || row >= LONGEST) {
            return false;
        }
        int askable = ladder.sets.askableBehind(askedSet);
        for (int question = 0; question < ladder.bank.size; question++) {
            if (isIn(askable, question) && isFoundBy(ladder, question, askedSet, row, more)) {
                return true;
            }
        }
        return false;
    }

    // The rows behind the latest answer are free, so what might be answered is tried out there.
    private static boolean isFoundBy(QuestionLadder ladder, int question, int askedSet, int row,
            int more) {
        int bigger = askedSet | 1 << question;
        ladder.sitting.weigh(ladder.bank, row, question, true);
        if (!canBeFound(ladder, bigger, row + 1, more - 1)) {
            return false;
        }
        ladder.sitting.weigh(ladder.bank, row, question, false);
        return canBeFound(ladder, bigger, row + 1, more - 1);
    }

    // ---- numbers

    private static boolean isWithin(int number, int low, int high) {
        return number >= low && number <= high;
    }

    private static boolean isStep(int step) {
        return isWithin(step, 0, STEPS - 1);
    }

    private static int asNumber(boolean holds) {
        return holds ? 1 : 0;
    }

    private static boolean isIn(int set, int question) {
        return (set & 1 << question) != 0;
    }

    private static int sumOf(int[] weights) {
        int sum = 0;
        for (int weight : weights) {
            sum += weight;
        }
        return sum;
    }

    private static int likeliestStep(int[] weights) {
        int best = 0;
        for (int step = 1; step < weights.length; step++) {
            if (weights[step] > weights[best]) {
                best = step;
            }
        }
        return best;
    }

    /** What an answer multiplies the weight of a step by. */
    private static int factor(int[] facts, int step, boolean right) {
        if (facts[KIND] == FRESH) {
            return 1;
        }
        int chance = facts[CHANCE + step];
        return right ? chance : FIFTHS - chance;
    }

    private static long sumBehind(int[] weights, int[] facts, boolean right) {
        long sum = 0;
        for (int step = 0; step < STEPS; step++) {
            sum += (long) weights[step] * factor(facts, step, right);
        }
        return sum;
    }

    private static long squaresBehind(int[] weights, int[] facts, boolean right) {
        long sum = 0;
        for (int step = 0; step < STEPS; step++) {
            long weight = (long) weights[step] * factor(facts, step, right);
            sum += weight * weight;
        }
        return sum;
    }

    private static long gainTop(int[] weights, int[] facts) {
        long squares = squaresBehind(weights, facts, true);
        if (facts[KIND] == FRESH) {
            return FIFTHS * squares;
        }
        return squares * sumBehind(weights, facts, false)
                + squaresBehind(weights, facts, false) * sumBehind(weights, facts, true);
    }

    private static long gainBottom(int[] weights, int[] facts) {
        long sum = sumBehind(weights, facts, true);
        if (facts[KIND] == FRESH) {
            return sum;
        }
        return sum * sumBehind(weights, facts, false);
    }

    /**
     * 1, 0 or -1 as top / bottom is more than, as much as or less than the other. A product across
     * would outgrow a long, so whole parts are compared, then the rests turned upside down.
     */
    private static int compareFractions(long top, long bottom, long otherTop, long otherBottom) {
        int sign = 1;
        // Each turn is a step of Euclid's, and numbers as long as these have under a hundred.
        for (int turn = 0; turn < 100 && bottom > 0 && otherBottom > 0; turn++) {
            long whole = top / bottom;
            long otherWhole = otherTop / otherBottom;
            if (whole != otherWhole) {
                return whole > otherWhole ? sign : -sign;
            }
            long rest = top % bottom;
            long otherRest = otherTop % otherBottom;
            if (rest == 0 || otherRest == 0) {
                return sign * Long.compare(rest, otherRest);
            }
            top = bottom;
            bottom = rest;
            otherTop = otherBottom;
            otherBottom = otherRest;
            sign = -sign;
        }
        return 0;
    }

    /** The questions, a row of facts each. */
    private static final class Bank {
        int size;
        private final int[][] facts = new int[MOST_QUESTIONS][FACTS];

        static boolean canBe(int what, int v) {
            switch (what) {
                case KIND:
                    return isWithin(v, PLAIN, FRESH);
                case GROUP:
                    return isWithin(v, 0, GROUPS - 1);
                case CONTENT:
                    return isWithin(v, 0, CONTENTS - 1);
                case LIMIT:
                    return isWithin(v, 1, MOST_SHOWN);
                default:
                    return false;
            }
        }

        static boolean areChances(int chances) {
            int rest = chances;
            for (int step = 0; step < STEPS; step++) {
                if (!isWithin(rest % 10, 1, MOST_CHANCE)) {
                    return false;
                }
                rest /= 10;
            }
            return rest == 0;
        }

        boolean has(int question) {
            return question >= 0 && question < size && question < MOST_QUESTIONS;
        }

        /** The caller has asked whether there is room. */
        int add(int chances) {
            int number = size;
            size++;
            int rest = chances;
            for (int step = STEPS - 1; step >= 0; step--) {
                put(number, CHANCE + step, rest % 10);
                rest /= 10;
            }
            return number;
        }

        int fact(int question, int what) {
            if (!has(question) || !isWithin(what, 0, FACTS - 1)) {
                return 0;
            }
            return facts[question][what];
        }

        void put(int question, int what, int v) {
            if (has(question) && isWithin(what, 0, FACTS - 1)) {
                facts[question][what] = v;
            }
        }

        void changeShown(int question, int by) {
            put(question, SHOWN, fact(question, SHOWN) + by);
        }

        /** The caller has asked whether there is such a question. */
        int[] row(int question) {
            return facts[has(question) ? question : 0];
        }
    }

    /** What a sitting keeps to, and what it begins with. */
    private static final class Rules {
        int most = 4;
        int sureOf = 9;
        int sureIn = 10;
        final int[] lows = new int[CONTENTS];
        final int[] highs = new int[CONTENTS];
        final int[] firstWeights = new int[STEPS];

        Rules() {
            for (int content = 0; content < CONTENTS; content++) {
                highs[content] = LONGEST;
            }
            for (int step = 0; step < STEPS; step++) {
                firstWeights[step] = 1;
            }
        }

        boolean areSure(int[] weights) {
            int greatest = weights[likeliestStep(weights)];
            return greatest * sureIn >= sureOf * sumOf(weights);
        }
    }

    /**
     * Which sets are fit, and which are parts of one that is. This stays as it is through a
     * sitting: there only what was asked is shown more, and that is no reason against a set.
     */
    private static final class FitSets {
        private int size;
        private int anchors;
        private int worn;
        private final int[] texts = new int[GROUPS];
        private final int[] foes = new int[GROUPS];
        private final int[] contents = new int[CONTENTS];
        private final boolean[] fits = new boolean[MOST_SETS];
        private final boolean[] partOfFit = new boolean[MOST_SETS];

        int findAll(Bank bank, Rules rules) {
            sort(bank);
            int found = 0;
            for (int set = 0; set < total(); set++) {
                fits[set] = keepsRules(set, rules) && keepsCompany(set);
                found += asNumber(fits[set]);
            }
            return found;
        }

        void spreadToParts() {
            for (int set = total() - 1; set >= 0; set--) {
                partOfFit[set] = fits[set] || isPartOfBigger(set);
            }
        }

        boolean isFit(int set) {
            return isWithin(set, 0, total() - 1) && fits[set];
        }

        int askableBehind(int asked) {
            int begun = restOfBegunTexts(asked);
            // Of the texts that are left in a begun group, the least bit alone.
            int thinkable = begun != 0 ? begun & -begun : ~asked;
            int askable = 0;
            for (int question = 0; question < size; question++) {
                int bit = 1 << question;
                if ((thinkable & bit) != 0 && isPartOfFit(asked | bit)) {
                    askable |= bit;
                }
            }
            return askable;
        }

        private int total() {
            return Math.min(1 << size, MOST_SETS);
        }

        private boolean isPartOfFit(int set) {
            return isWithin(set, 0, total() - 1) && partOfFit[set];
        }

        // Bigger sets have bigger numbers, so going down they are known before their parts.
        private boolean isPartOfBigger(int set) {
            for (int question = 0; question < size; question++) {
                if (!isIn(set, question) && isPartOfFit(set | 1 << question)) {
                    return true;
                }
            }
            return false;
        }

        private void sort(Bank bank) {
            clear();
            size = Math.min(bank.size, MOST_QUESTIONS);
            for (int question = 0; question < size; question++) {
                sortOne(bank.row(question), 1 << question);
            }
        }

        private void clear() {
            anchors = 0;
            worn = 0;
            for (int group = 0; group < GROUPS; group++) {
                texts[group] = 0;
                foes[group] = 0;
            }
            for (int content = 0; content < CONTENTS; content++) {
                contents[content] = 0;
            }
        }

        private void sortOne(int[] facts, int bit) {
            int group = facts[GROUP];
            int content = facts[CONTENT];
            if (!isWithin(group, 0, GROUPS - 1) || !isWithin(content, 0, CONTENTS - 1)) {
                return;
            }
            contents[content] |= bit;
            if (facts[SHOWN] >= facts[LIMIT]) {
                worn |= bit;
            }
            if (facts[KIND] == TEXT) {
                texts[group] |= bit;
            } else if (facts[KIND] == FOE) {
                foes[group] |= bit;
            } else if (facts[KIND] == ANCHOR) {
                anchors |= bit;
            }
        }

        private boolean keepsRules(int set, Rules rules) {
            if (Integer.bitCount(set) > rules.most) {
                return false;
            }
            for (int content = 0; content < CONTENTS; content++) {
                int share = Integer.bitCount(set & contents[content]);
                if (!isWithin(share, rules.lows[content], rules.highs[content])) {
                    return false;
                }
            }
            return true;
        }

        private boolean keepsCompany(int set) {
            if ((set & anchors) != anchors || (set & worn) != 0) {
                return false;
            }
            for (int group = 0; group < GROUPS; group++) {
                int together = set & texts[group];
                if (together != 0 && together != texts[group]) {
                    return false;
                }
                if (Integer.bitCount(set & foes[group]) > 1) {
                    return false;
                }
            }
            return true;
        }

        private int restOfBegunTexts(int asked) {
            for (int group = 0; group < GROUPS; group++) {
                int rest = texts[group] & ~asked;
                if (rest != 0 && rest != texts[group]) {
                    return rest;
                }
            }
            return 0;
        }
    }

    /** What was asked and answered, and the weights behind each answer, so that one can go back. */
    private static final class Sitting {
        boolean underWay;
        int over;
        int total;
        int askedSet;
        final int[] questions = new int[LONGEST];
        final boolean[] rights = new boolean[LONGEST];
        private final int[][] weightRows = new int[LONGEST + 1][STEPS];

        void open(Rules rules) {
            underWay = true;
            total = 0;
            askedSet = 0;
            System.arraycopy(rules.firstWeights, 0, weightRows[0], 0, STEPS);
        }

        int[] weights() {
            return weightsBehind(total);
        }

        int[] weightsBehind(int row) {
            return weightRows[isWithin(row, 0, LONGEST) ? row : 0];
        }

        /** Puts the weights behind an answer into the row beyond the given one. */
        void weigh(Bank bank, int row, int question, boolean right) {
            int[] from = weightsBehind(row);
            int[] to = weightsBehind(row + 1);
            int[] facts = bank.row(question);
            for (int step = 0; step < STEPS; step++) {
                to[step] = from[step] * factor(facts, step, right);
            }
        }

        void note(Bank bank, int question, boolean right) {
            if (!isWithin(total, 0, LONGEST - 1)) {
                return;
            }
            weigh(bank, total, question, right);
            questions[total] = question;
            rights[total] = right;
            askedSet |= 1 << question;
            total++;
        }

        int takeLatest() {
            if (!isWithin(total, 1, LONGEST)) {
                return NONE;
            }
            total--;
            askedSet &= ~(1 << questions[total]);
            return questions[total];
        }
    }
}
