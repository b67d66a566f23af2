/** Each promise of the document by itself: ordinary numbers, the edges, one beyond, and refusals. */
public final class PromisesTest {
    private static final int BAD = -1, STATE = -2, FULL = -3, NONE = -9;
    private static final int PLAIN = 0, TEXT = 1, FOE = 2, ANCHOR = 3, FRESH = 4;
    private static final int[] ODD = {-1, Integer.MIN_VALUE, Integer.MAX_VALUE, 100, 1 << 16};

    private static final Check check = new Check("PromisesTest");

    public static void main(String[] args) {
        constants();
        newObject();
        question();
        set();
        length();
        share();
        sure();
        weight();
        about();
        fit();
        fitKinds();
        fitLimits();
        fitChanges();
        begin();
        next();
        answer();
        back();
        end();
        quit();
        may();
        gain();
        gainOfEachStep();
        gainOfParts();
        gainOfLargeWeights();
        done();
        now();
        asked();
        reach();
        count();
        check.finish();
    }

    private static void due(String what, long got, long want) {
        check.due(what, got, want);
    }

    private static QuestionLadder ladder(int... chances) {
        return Ladders.plain(chances);
    }

    private static String look(QuestionLadder x) {
        return Sight.asItIs(x);
    }

    private static void unchanged(String what, QuestionLadder x, String before) {
        due(what + " changed nothing", look(x).equals(before) ? 1 : 0, 1);
    }

    private static void constants() {
        due("BAD", QuestionLadder.BAD, -1);
        due("STATE", QuestionLadder.STATE, -2);
        due("FULL", QuestionLadder.FULL, -3);
        due("NONE", QuestionLadder.NONE, -9);
    }

    // ---- promise 1

    private static void newObject() {
        QuestionLadder x = new QuestionLadder();
        int[] counts = {0, 4, 0, 0, 0, 0, 9, 10, 0};
        for (int what = 0; what < counts.length; what++) {
            due("new: count(" + what + ")", x.count(what), counts[what]);
        }
        due("new: about(0, 0)", x.about(0, 0), BAD);
        due("new: fit()", x.fit(), 1);
        for (int content = 0; content < 3; content++) {
            due("new: share", x.share(content, 0, 6), 0);
        }
        for (int step = 0; step < 6; step++) {
            due("new: weight", x.weight(step, 1), 1);
        }
        due("new: sure", x.sure(9, 10), 9);
        due("new: length", x.length(6), 4);
        QuestionLadder six = ladder(111111, 111111, 111111, 111111, 111111, 111111);
        six.length(6);
        due("HIGH is 6 at first", six.fit(), 64);
        due("another object has its own questions", x.count(0), 0);
    }

    // ---- promise 2

    private static void question() {
        QuestionLadder x = new QuestionLadder();
        int[][] bad = {
            {-1, 0, 0, 1, 111111}, {5, 0, 0, 1, 111111}, {0, -1, 0, 1, 111111},
            {0, 3, 0, 1, 111111}, {0, 0, -1, 1, 111111}, {0, 0, 3, 1, 111111},
            {0, 0, 0, 0, 111111}, {0, 0, 0, 100, 111111}, {0, 0, 0, -5, 111111},
            {0, 0, 0, 1, 111110}, {0, 0, 0, 1, 444445}, {0, 0, 0, 1, 11111},
            {0, 0, 0, 1, 1111111}, {0, 0, 0, 1, 444454}, {0, 0, 0, 1, 101111},
            {0, 0, 0, 1, 511111}, {0, 0, 0, 1, -111111}, {0, 0, 0, 1, 0},
            {0, 0, 0, 1, Integer.MIN_VALUE}, {0, 0, 0, 1, Integer.MAX_VALUE}};
        for (int[] b : bad) {
            due("question of a bad number", x.question(b[0], b[1], b[2], b[3], b[4]), BAD);
        }
        due("nothing was added", x.count(0), 0);
        due("the least", x.question(0, 0, 0, 1, 111111), 0);
        due("the most", x.question(4, 2, 2, 99, 444444), 1);
        for (int i = 2; i < 9; i++) {
            due("numbers go on", x.question(PLAIN, 0, 0, 1, 123412), i);
        }
        x.begin();
        String before = look(x);
        due("in a sitting", x.question(PLAIN, 0, 0, 1, 123412), STATE);
        due("bad in a sitting", x.question(5, 0, 0, 1, 123412), BAD);
        unchanged("question", x, before);
        x.quit();
        due("the tenth", x.question(PLAIN, 0, 0, 1, 123412), 9);
        before = look(x);
        due("the eleventh", x.question(PLAIN, 0, 0, 1, 123412), FULL);
        due("a bad eleventh", x.question(PLAIN, 0, 0, 1, 123415), BAD);
        unchanged("question", x, before);
        x.begin();
        due("the eleventh in a sitting", x.question(PLAIN, 0, 0, 1, 123412), STATE);
    }

    // ---- promise 3

    private static void set() {
        QuestionLadder x = ladder(111111, 222222);
        int[] tops = {4, 2, 2, 99};
        int[] lows = {0, 0, 0, 1};
        int[] first = {0, 0, 0, 99};
        for (int what = 0; what < 4; what++) {
            due("set to the most", x.set(1, what, tops[what]), first[what]);
            due("set to the least", x.set(1, what, lows[what]), tops[what]);
            String before = look(x);
            due("set beyond", x.set(1, what, tops[what] + 1), BAD);
            due("set below", x.set(1, what, lows[what] - 1), BAD);
            for (int odd : ODD) {
                due("set to odd", x.set(1, what, odd), BAD);
                due("set of odd", x.set(odd, what, 1), BAD);
            }
            unchanged("set", x, before);
            due("it is the least", x.about(1, what), lows[what]);
            due("the other is as it was", x.about(0, what), first[what]);
        }
        due("what below", x.set(0, -1, 1), BAD);
        due("what beyond", x.set(0, 4, 1), BAD);
        due("a chance is not set", x.set(0, 5, 1), BAD);
        due("no such question", x.set(2, 0, 0), BAD);
        x.begin();
        String before = look(x);
        due("set in a sitting", x.set(0, 0, 1), STATE);
        due("bad set in a sitting", x.set(0, 0, 5), BAD);
        due("bad set in a sitting", x.set(2, 0, 0), BAD);
        unchanged("set", x, before);
    }

    // ---- promise 4

    private static void length() {
        QuestionLadder x = ladder(111111);
        due("length(1)", x.length(1), 4);
        due("length(6)", x.length(6), 1);
        due("length(0)", x.length(0), BAD);
        due("length(7)", x.length(7), BAD);
        for (int odd : ODD) {
            due("length of odd", x.length(odd), BAD);
        }
        due("it is as it was", x.count(1), 6);
        x.begin();
        due("length in a sitting", x.length(3), STATE);
        due("bad length in a sitting", x.length(7), BAD);
        due("it is as it was", x.count(1), 6);
    }

    // ---- promise 5

    private static void share() {
        QuestionLadder x = ladder(111111, 111111, 111111);
        x.set(1, 2, 1);
        x.set(2, 2, 2);
        due("all sets of three", x.fit(), 8);
        due("share(0, 1, 6)", x.share(0, 1, 6), 0);
        due("content 0 must come", x.fit(), 4);
        due("share(1, 0, 0)", x.share(1, 0, 0), 0);
        due("content 1 must not", x.fit(), 2);
        due("share(2, 1, 1)", x.share(2, 1, 1), 0);
        due("content 2 must come", x.fit(), 1);
        due("LOW as it was", x.share(0, 6, 6), 1);
        due("too many must come", x.fit(), 0);
        due("LOW as it was", x.share(0, 1, 6), 6);
        String before = look(x);
        due("LOW above HIGH", x.share(0, 2, 1), BAD);
        due("LOW above HIGH", x.share(0, 1, 0), BAD);
        due("LOW below", x.share(0, -1, 3), BAD);
        due("HIGH beyond", x.share(0, 0, 7), BAD);
        due("both beyond", x.share(0, 7, 7), BAD);
        due("both below", x.share(0, -1, -1), BAD);
        due("content below", x.share(-1, 0, 1), BAD);
        due("content beyond", x.share(3, 0, 1), BAD);
        unchanged("share", x, before);
        x.begin();
        before = look(x);
        due("share in a sitting", x.share(0, 0, 6), STATE);
        due("bad share in a sitting", x.share(0, 2, 1), BAD);
        unchanged("share", x, before);
        x.quit();
        due("refused shares changed nothing", x.share(0, 0, 6), 1);
        due("a fresh one has a content, too", x.set(2, 0, FRESH), 0);
        due("it keeps to the share", x.fit(), 2);
    }

    // ---- promise 6

    private static void sure() {
        QuestionLadder x = ladder(111111);
        due("sure(1, 1)", x.sure(1, 1), 9);
        due("sure(20, 20)", x.sure(20, 20), 1);
        due("sure(11, 20)", x.sure(11, 20), 20);
        due("sure(2, 3)", x.sure(2, 3), 11);
        int[][] bad = {{10, 20}, {1, 2}, {0, 1}, {1, 0}, {0, 0}, {21, 21}, {20, 21}, {3, 2},
            {-1, -1}, {-3, 2}, {2, -3}, {Integer.MAX_VALUE, Integer.MAX_VALUE},
            {Integer.MIN_VALUE, 1}, {1 << 30, 1 << 30}, {Integer.MIN_VALUE, Integer.MIN_VALUE}};
        for (int[] b : bad) {
            due("sure of bad numbers", x.sure(b[0], b[1]), BAD);
        }
        due("a is as it was", x.count(6), 2);
        due("b is as it was", x.count(7), 3);
        x.begin();
        due("sure in a sitting", x.sure(3, 4), STATE);
        due("bad sure in a sitting", x.sure(1, 2), BAD);
        due("a is as it was", x.count(6), 2);
        due("b is as it was", x.count(7), 3);
    }

    // ---- promise 7

    private static void weight() {
        QuestionLadder x = ladder(111111);
        due("weight(0, 3)", x.weight(0, 3), 1);
        due("weight(5, 2)", x.weight(5, 2), 1);
        due("weight(0, 2)", x.weight(0, 2), 3);
        due("weight(0, 1)", x.weight(0, 1), 2);
        due("weight(0, 3)", x.weight(0, 3), 1);
        int[][] bad = {{-1, 1}, {6, 1}, {0, 0}, {0, 4}, {0, -1}, {Integer.MAX_VALUE, 1},
            {Integer.MIN_VALUE, 1}, {0, Integer.MAX_VALUE}};
        for (int[] b : bad) {
            due("weight of bad numbers", x.weight(b[0], b[1]), BAD);
        }
        x.begin();
        due("a sitting begins with it", x.now(0), 3);
        due("a sitting begins with it", x.now(5), 2);
        due("and with 1", x.now(3), 1);
        due("weight in a sitting", x.weight(0, 1), STATE);
        due("bad weight in a sitting", x.weight(0, 4), BAD);
        due("it is as it was", x.now(0), 3);
        x.answer(0, false);
        x.quit();
        due("an answer does not change what sittings begin with", x.weight(0, 3), 3);
    }

    // ---- promise 8

    private static void about() {
        QuestionLadder x = ladder(111111);
        x.question(FOE, 1, 2, 77, 123432);
        int[] facts = {FOE, 1, 2, 77, 0, 1, 2, 3, 4, 3, 2};
        for (int what = 0; what < facts.length; what++) {
            due("about(1, " + what + ")", x.about(1, what), facts[what]);
        }
        due("what below", x.about(1, -1), BAD);
        due("what beyond", x.about(1, 11), BAD);
        due("question below", x.about(-1, 0), BAD);
        due("question beyond", x.about(2, 0), BAD);
        for (int odd : ODD) {
            due("odd question", x.about(odd, 0), BAD);
            due("odd what", x.about(0, odd), BAD);
        }
        x.begin();
        due("in a sitting, too", x.about(1, 3), 77);
        x.answer(1, true);
        due("shown once", x.about(1, 4), 1);
        due("the other was not shown", x.about(0, 4), 0);
        due("bad in a sitting", x.about(2, 4), BAD);
    }

    // ---- promise 9

    private static void fit() {
        QuestionLadder x = new QuestionLadder();
        due("the empty set", x.fit(), 1);
        for (int i = 0; i < 10; i++) {
            x.question(PLAIN, 0, i % 3, 1, 111111);
        }
        int[] sums = {11, 56, 176, 386, 638, 848};
        for (int n = 1; n <= 6; n++) {
            x.length(n);
            due("sets of " + n + " at most of ten", x.fit(), sums[n - 1]);
        }
        x.begin();
        due("fit() in a sitting", x.fit(), STATE);
        x.quit();
        due("fit() behind a sitting", x.fit(), 848);
        x.share(0, 0, 1);
        x.share(1, 2, 2);
        x.share(2, 1, 3);
        // contents 0, 1, 2 have 4, 3, 3 questions: (1 + 4) * 3 * (3 + 3 + 1)
        due("shares", x.fit(), 105);
        x.length(4);
        // without four of content 0 or 2 together: (3 + 3) + 4 * 3, three times
        due("shares and length", x.fit(), 54);
    }

    private static void fitKinds() {
        QuestionLadder x = ladder(111111, 111111, 111111, 111111);
        x.set(0, 0, TEXT);
        due("a text alone", x.fit(), 16);
        x.set(1, 0, TEXT);
        due("two texts go together", x.fit(), 8);
        x.set(1, 1, 2);
        due("not those of two groups", x.fit(), 16);
        x.set(0, 0, FOE);
        x.set(1, 0, FOE);
        due("nor are these foes", x.fit(), 16);
        x.set(1, 1, 0);
        due("two foes", x.fit(), 12);
        x.set(2, 0, FOE);
        due("three foes", x.fit(), 8);
        x.set(2, 0, TEXT);
        due("a foe and a text of a group do not mind", x.fit(), 12);
        x.set(3, 0, ANCHOR);
        due("an anchor must come", x.fit(), 6);
        x.set(2, 0, ANCHOR);
        due("so must both", x.fit(), 3);
        x.set(2, 0, FRESH);
        due("fresh ones are as plain ones", x.fit(), 6);
        x.set(3, 0, FRESH);
        due("fresh ones are as plain ones", x.fit(), 12);
        x.length(1);
        due("fresh ones have a length, too", x.fit(), 5);
        x.set(0, 0, ANCHOR);
        x.set(1, 0, ANCHOR);
        due("more anchors than length", x.fit(), 0);
        due("no sitting then", x.begin(), STATE);
        due("none is under way", x.count(2), 0);
    }

    private static void fitLimits() {
        QuestionLadder x = ladder(111111, 111111);
        x.set(0, 3, 2);
        for (int i = 0; i < 2; i++) {
            due("both may be", x.fit(), 4);
            x.begin();
            x.answer(0, true);
            due("its own limit does not hinder", x.may(1), 1);
            x.answer(1, true);
            due("the sitting is spent", x.end(), 0);
        }
        due("shown as often as its limit", x.fit(), 2);
        x.set(0, 3, 1);
        due("shown more often than its limit", x.fit(), 2);
        x.set(1, 0, ANCHOR);
        due("the anchor may", x.fit(), 1);
        x.set(1, 3, 2);
        due("an anchor at its limit", x.fit(), 0);
        x.set(1, 0, TEXT);
        x.set(0, 0, TEXT);
        due("texts at their limits", x.fit(), 1);
        x.set(0, 3, 3);
        due("one of the texts at its limit", x.fit(), 1);
        x.set(1, 3, 3);
        due("none at its limit", x.fit(), 2);
    }

    private static void fitChanges() {
        QuestionLadder x = ladder(111111, 111111, 111111);
        x.set(0, 1, 2);
        x.set(1, 1, 2);
        x.set(0, 0, TEXT);
        x.set(1, 0, TEXT);
        due("texts of group 2", x.fit(), 4);
        x.set(0, 0, FOE);
        x.set(1, 0, FOE);
        due("foes of group 2", x.fit(), 6);
        x.share(0, 0, 0);
        due("none of content 0", x.fit(), 1);
        x.set(0, 2, 1);
        x.set(2, 2, 2);
        due("their contents have changed", x.fit(), 4);
        x.share(2, 1, 1);
        due("content 2 must come", x.fit(), 2);
        x.share(1, 0, 0);
        due("none of content 1", x.fit(), 1);
        QuestionLadder y = ladder(111111, 111111, 111111);
        y.set(0, 3, 1);
        y.set(1, 3, 1);
        y.begin();
        y.answer(0, true);
        y.answer(1, true);
        y.answer(2, true);
        y.end();
        due("two at their limits", y.fit(), 2);
    }

    // ---- promise 10

    private static void begin() {
        QuestionLadder x = ladder(111111, 111111, 111111);
        x.weight(2, 3);
        due("begin()", x.begin(), 3);
        due("a sitting is under way", x.count(2), 1);
        due("none was asked", x.count(3), 0);
        String before = look(x);
        due("begin() again", x.begin(), STATE);
        unchanged("begin", x, before);
        x.answer(0, true);
        x.answer(2, false);
        due("begin() again", x.begin(), STATE);
        due("two were asked", x.count(3), 2);
        due("an empty bank", new QuestionLadder().begin(), 0);
        x.quit();
        x.set(1, 3, 1);
        x.length(1);
        due("each may be asked", x.begin(), 3);
        x.answer(1, true);
        due("end()", x.end(), 2);
        due("one at its limit", x.begin(), 2);
        due("weights begin anew", x.now(2), 3);
        due("none was asked", x.asked(0, 0), BAD);
        x.quit();
        x.share(0, 2, 6);
        due("no set is fit", x.begin(), STATE);
        due("none is under way", x.count(2), 0);
    }

    // ---- promise 11

    private static void next() {
        QuestionLadder x = ladder(222222, 444111, 111444, 333222);
        due("no sitting", x.next(), STATE);
        x.begin();
        due("of two as good the least number", x.next(), 1);
        nextStandsAnywhere();
        x.answer(1, true);
        due("the greatest gain now", x.next(), 2);
        x.quit();
        x.set(1, 0, FRESH);
        x.begin();
        due("a fresh one tells nothing", x.next(), 2);
        x.quit();
        // the greatest gain is no use where it may not be asked
        x.set(1, 0, FOE);
        x.set(2, 0, FOE);
        x.begin();
        x.answer(1, false);
        due("the foe may not", x.next(), 3);
        x.quit();
        x.length(1);
        x.begin();
        x.answer(0, true);
        due("none may be asked", x.next(), NONE);
        QuestionLadder y = ladder(411111, 141111, 444111);
        y.sure(11, 20);
        y.weight(0, 3);
        y.begin();
        y.answer(0, true);
        due("others may be asked", y.count(5), 2);
        due("but it is done", y.next(), NONE);
        due("an empty bank", emptySitting().next(), NONE);
    }

    private static void nextStandsAnywhere() {
        QuestionLadder first = ladder(111444, 222222, 114444);
        first.begin();
        due("the first one", first.next(), 0);
        QuestionLadder last = ladder(222222, 144444, 114444, 111444);
        last.begin();
        due("the last one", last.next(), 3);
        QuestionLadder one = ladder(222222);
        one.begin();
        due("the only one", one.next(), 0);
    }

    private static QuestionLadder emptySitting() {
        QuestionLadder x = new QuestionLadder();
        x.begin();
        return x;
    }

    // ---- promise 12

    private static void answer() {
        QuestionLadder x = ladder(123412, 432143, 222222);
        due("bad before the state", x.answer(3, true), BAD);
        due("bad before the state", x.answer(-1, true), BAD);
        due("no sitting", x.answer(0, true), STATE);
        due("nothing was shown", x.about(0, 4), 0);
        x.begin();
        for (int odd : ODD) {
            due("odd question", x.answer(odd, true), BAD);
        }
        due("answer(1, true)", x.answer(1, true), 1);
        int[] right = {4, 3, 2, 1, 4, 3};
        for (int step = 0; step < 6; step++) {
            due("times the chance", x.now(step), right[step]);
        }
        due("answer(0, false)", x.answer(0, false), 2);
        int[] wrong = {16, 9, 4, 1, 16, 9};
        for (int step = 0; step < 6; step++) {
            due("times five less the chance", x.now(step), wrong[step]);
        }
        due("shown", x.about(0, 4), 1);
        String before = look(x);
        due("it was asked", x.answer(0, true), STATE);
        due("there is none", x.answer(3, true), BAD);
        unchanged("answer", x, before);
        x.quit();
        x.set(2, 0, FRESH);
        x.begin();
        due("a fresh one", x.answer(2, true), 1);
        due("does not count", x.count(8), 6);
        due("but is shown", x.about(2, 4), 1);
        due("and takes its place", x.asked(0, 0), 2);
        x.quit();
        QuestionLadder y = ladder(411111, 141111);
        y.sure(11, 20);
        y.weight(0, 3);
        y.begin();
        y.answer(0, true);
        before = look(y);
        due("it may be asked", y.may(1), 1);
        due("but it is done", y.answer(1, true), STATE);
        due("bad where it is done", y.answer(2, true), BAD);
        unchanged("answer", y, before);
    }

    // ---- promise 13

    private static void back() {
        QuestionLadder x = ladder(123412, 432143, 222222);
        due("no sitting", x.back(), STATE);
        x.begin();
        due("none was asked", x.back(), STATE);
        String none = look(x);
        x.answer(1, true);
        String one = look(x);
        x.answer(0, false);
        String two = look(x);
        x.answer(2, true);
        due("spent", x.done(), 2);
        due("back out of what is done", x.back(), 2);
        unchanged("there and back", x, two);
        due("back()", x.back(), 1);
        unchanged("there and back", x, one);
        due("not shown", x.about(0, 4), 0);
        due("may be asked again", x.may(0), 1);
        due("and answered otherwise", x.answer(0, true), 2);
        due("as right", x.now(0), 4);
        due("back()", x.back(), 1);
        due("back()", x.back(), 0);
        unchanged("there and back", x, none);
        due("none is left", x.back(), STATE);
        unchanged("refused", x, none);
    }

    // ---- promise 14

    private static void end() {
        QuestionLadder x = ladder(114411, 222222);
        due("no sitting", x.end(), STATE);
        x.begin();
        String before = look(x);
        due("not done", x.end(), STATE);
        unchanged("end", x, before);
        x.answer(0, true);
        x.answer(1, false);
        due("of the greatest the least step", x.end(), 2);
        due("over", x.count(4), 1);
        due("none under way", x.count(2), 0);
        due("over and over", x.end(), STATE);
        due("it was shown", x.about(0, 4), 1);
        x.weight(5, 3);
        x.weight(3, 2);
        x.begin();
        x.answer(0, false);
        x.answer(1, false);
        due("the last step", x.end(), 5);
        due("over", x.count(4), 2);
        x.question(ANCHOR, 0, 1, 9, 111114);
        x.sure(11, 20);
        x.weight(3, 1);
        x.begin();
        x.answer(0, false);
        due("the anchor is missing", x.end(), STATE);
        x.answer(2, true);
        due("sure with others left", x.done(), 1);
        due("sure", x.end(), 5);
        QuestionLadder y = ladder(222222);
        y.share(0, 1, 1);
        y.weight(4, 3);
        y.sure(11, 20);
        y.begin();
        due("a set that is not fit", y.end(), STATE);
    }

    // ---- promise 15

    private static void quit() {
        QuestionLadder x = ladder(114411, 222222, 333333);
        due("no sitting", x.quit(), STATE);
        String before = look(x);
        x.begin();
        due("none was asked", x.quit(), 0);
        unchanged("begin and quit", x, before);
        x.begin();
        x.answer(1, true);
        x.answer(0, true);
        due("two were asked", x.quit(), 2);
        unchanged("as if it had not been", x, before);
        due("no more shown", x.about(1, 4), 0);
        due("not one over", x.count(4), 0);
        due("quit again", x.quit(), STATE);
        x.begin();
        x.answer(2, true);
        x.answer(1, true);
        x.answer(0, true);
        x.end();
        x.begin();
        x.answer(2, true);
        due("one was asked", x.quit(), 1);
        due("as often as before", x.about(2, 4), 1);
        due("one over", x.count(4), 1);
    }

    // ---- promise 16

    private static void may() {
        QuestionLadder x = new QuestionLadder();
        x.question(TEXT, 0, 0, 9, 111444);
        x.question(PLAIN, 0, 0, 9, 111444);
        x.question(TEXT, 0, 0, 9, 111444);
        x.question(TEXT, 1, 0, 9, 111444);
        x.question(TEXT, 0, 0, 9, 111444);
        due("no sitting", x.may(0), STATE);
        due("bad before the state", x.may(5), BAD);
        x.begin();
        for (int odd : ODD) {
            due("odd question", x.may(odd), BAD);
        }
        mayAre(x, "all may be asked", 1, 1, 1, 1, 1);
        x.answer(4, true);
        mayAre(x, "the least text of the group", 1, 0, 0, 0, 0);
        x.answer(0, true);
        mayAre(x, "the next of the group", 0, 0, 1, 0, 0);
        x.answer(2, true);
        mayAre(x, "the group is whole", 0, 1, 0, 1, 0);
        x.answer(3, true);
        mayAre(x, "the length is full", 0, 0, 0, 0, 0);
        x.back();
        x.back();
        x.back();
        x.back();
        x.answer(1, true);
        mayAre(x, "the group has room yet", 1, 0, 1, 1, 1);
        x.answer(3, true);
        mayAre(x, "the group has no room", 0, 0, 0, 0, 0);
        due("so it is spent", x.done(), 2);
        textsOfTwo();
        QuestionLadder y = ladder(111111, 111111, 111111);
        y.set(0, 0, ANCHOR);
        y.length(2);
        y.begin();
        y.answer(1, true);
        mayAre(y, "a place is kept for the anchor", 1, 0, 0);
        y.quit();
        y.set(0, 0, PLAIN);
        y.set(2, 2, 1);
        y.share(1, 1, 1);
        y.begin();
        y.answer(1, true);
        mayAre(y, "a place is kept for the share", 0, 0, 1);
    }

    private static void textsOfTwo() {
        QuestionLadder x = ladder(111111, 111111, 111111);
        for (int q = 0; q < 3; q += 2) {
            x.set(q, 0, TEXT);
            x.set(q, 1, 2);
        }
        x.begin();
        x.answer(2, true);
        mayAre(x, "its text comes first", 1, 0, 0);
        due("answer(1) before it", x.answer(1, true), STATE);
        x.answer(0, true);
        mayAre(x, "then others", 0, 1, 0);
        x.back();
        x.back();
        x.answer(0, true);
        mayAre(x, "the other way round", 0, 0, 1);
    }

    private static void mayAre(QuestionLadder x, String what, int... want) {
        for (int q = 0; q < want.length; q++) {
            due("may(" + q + "): " + what, x.may(q), want[q]);
        }
    }

    // ---- promise 17

    private static void gain() {
        QuestionLadder x = ladder(111444, 444111, 114444, 222222);
        x.question(FRESH, 0, 0, 9, 111444);
        due("no sitting", x.gain(0, 1), -3);
        due("bad before the state", x.gain(0, 5), -2);
        due("bad before the state", x.gain(-1, 0), -2);
        x.begin();
        for (int odd : ODD) {
            due("odd first", x.gain(odd, 0), -2);
            due("odd second", x.gain(0, odd), -2);
        }
        due("right and wrong turned round", x.gain(0, 1), 0);
        due("halves tell more than a third", x.gain(0, 2), 1);
        due("the other way", x.gain(2, 0), -1);
        due("more than nothing", x.gain(2, 3), 1);
        due("a fresh one, and one that tells nothing", x.gain(4, 3), 0);
        due("a fresh one tells less", x.gain(4, 0), -1);
        due("itself", x.gain(2, 2), 0);
        x.answer(0, true);
        due("now another tells more", x.gain(2, 0), -1);
        due("also of one that was asked", x.gain(0, 3), 1);
    }

    private static void gainOfEachStep() {
        for (int step = 0; step < 6; step++) {
            QuestionLadder x = ladder(411111, 141111, 114111, 111411, 111141, 111114);
            x.weight(step, 3);
            x.begin();
            int other = (step + 1) % 6;
            due("the likeliest step tells most: " + step, x.gain(step, other), 1);
            due("the other way", x.gain(other, step), -1);
            due("next()", x.next(), step);
            for (int q = 0; q < 6; q++) {
                due("of the others none tells more", x.gain(q, other), q == step ? 1 : 0);
            }
        }
    }

    /** Gains 6 4/5, 6 29/56, 6 8/17, 5 25/221 and 5: most have the same whole part. */
    private static void gainOfParts() {
        QuestionLadder x = ladder(444111, 443111, 442111, 222223, 222222);
        x.question(FRESH, 0, 0, 9, 444111);
        x.begin();
        for (int q = 0; q < 6; q++) {
            for (int other = 0; other < 6; other++) {
                // the fresh one has 5, as the last plain one
                int want = Integer.compare(Math.min(other, 4), Math.min(q, 4));
                due("gain(" + q + ", " + other + ")", x.gain(q, other), want);
            }
        }
    }

    private static void gainOfLargeWeights() {
        QuestionLadder x = ladder(112331, 341144, 333421, 331331, 312134, 111232, 322122);
        x.question(FRESH, 0, 0, 9, 112222);
        x.question(PLAIN, 0, 0, 9, 322213);
        x.question(PLAIN, 0, 0, 9, 313431);
        x.length(6);
        x.sure(20, 20);
        int[] weights = {2, 1, 3, 1, 2, 3};
        boolean[] rights = {false, false, true, true, true, false};
        for (int step = 0; step < 6; step++) {
            x.weight(step, weights[step]);
        }
        x.begin();
        for (int i = 0; i < 6; i++) {
            due("answer", x.answer(i, rights[i]), i + 1);
        }
        // products across of these do not fit into a long
        due("gain(2, 1)", x.gain(2, 1), -1);
        due("gain(3, 2)", x.gain(3, 2), 1);
        due("gain(4, 2)", x.gain(4, 2), 1);
    }

    // ---- promise 18

    private static void done() {
        QuestionLadder x = ladder(411111, 141111);
        due("no sitting", x.done(), STATE);
        x.weight(0, 3);
        x.sure(3, 5);
        x.begin();
        due("not done", x.done(), 0);
        x.answer(0, true);
        // 12 of 17 is 3 of 5 at least, and one may be asked yet
        due("sure", x.done(), 1);
        due("one may be asked", x.count(5), 1);
        x.quit();
        x.length(1);
        x.begin();
        x.answer(0, true);
        due("sure and spent", x.done(), 1);
        x.back();
        x.answer(0, false);
        due("spent alone", x.done(), 2);
        x.quit();
        x.length(2);
        x.set(1, 0, ANCHOR);
        x.begin();
        x.answer(0, true);
        due("odds without the anchor", x.done(), 0);
        x.answer(1, false);
        due("odds with the anchor", x.done(), 1);
        due("spent with none to ask", emptySitting().done(), 2);
        due("over with none to ask", emptySitting().end(), 0);
        QuestionLadder y = ladder(411111, 222222);
        due("4 of 9 is no odds to be sure of", y.sure(4, 9), BAD);
        y.begin();
        y.answer(0, true);
        due("4 of 9 is below 9 of 10", y.done(), 0);
        QuestionLadder z = ladder(411111, 222222);
        z.weight(0, 3);
        z.sure(12, 17);
        z.begin();
        z.answer(0, true);
        due("12 of 17 to the point", z.done(), 1);
        z.quit();
        z.sure(13, 18);
        z.begin();
        z.answer(0, true);
        due("12 of 17 is below 13 of 18", z.done(), 0);
    }

    // ---- promise 19

    private static void now() {
        QuestionLadder x = ladder(111111, 111111, 111111, 111111, 111111, 111111);
        due("no sitting", x.now(0), STATE);
        due("bad before the state", x.now(6), BAD);
        x.length(6);
        x.weight(4, 3);
        x.begin();
        for (int odd : ODD) {
            due("odd step", x.now(odd), BAD);
        }
        due("step beyond", x.now(6), BAD);
        int want = 3;
        for (int i = 0; i < 6; i++) {
            due("now(4)", x.now(4), want);
            x.answer(i, false);
            want *= 4;
        }
        due("the greatest there is", x.now(4), 12288);
        due("the last step", x.now(5), 4096);
    }

    // ---- promise 20

    private static void asked() {
        QuestionLadder x = ladder(111111, 111111, 111111);
        due("no sitting", x.asked(0, 0), STATE);
        due("no sitting, far on", x.asked(Integer.MAX_VALUE, 1), STATE);
        due("bad before the state", x.asked(-1, 0), BAD);
        due("bad before the state", x.asked(0, 2), BAD);
        due("bad before the state", x.asked(0, -1), BAD);
        x.begin();
        due("none was asked", x.asked(0, 0), BAD);
        x.answer(2, false);
        x.answer(0, true);
        due("the first", x.asked(0, 0), 2);
        due("was wrong", x.asked(0, 1), 0);
        due("the second", x.asked(1, 0), 0);
        due("was right", x.asked(1, 1), 1);
        due("no third", x.asked(2, 0), BAD);
        due("no third", x.asked(2, 1), BAD);
        for (int odd : ODD) {
            due("odd i", x.asked(odd, 0), BAD);
            due("odd what", x.asked(0, odd), BAD);
        }
        x.back();
        due("no second any more", x.asked(1, 0), BAD);
        x.answer(1, false);
        due("another second", x.asked(1, 0), 1);
        due("was wrong", x.asked(1, 1), 0);
        x.quit();
        due("none under way", x.asked(0, 0), STATE);
    }

    // ---- promise 21

    private static void reach() {
        QuestionLadder x = ladder(424144, 331113, 241444, 234112, 431244, 414411, 444241, 111134);
        due("no sitting", x.reach(0), STATE);
        due("bad before the state", x.reach(4), BAD);
        due("bad before the state", x.reach(-1), BAD);
        begin(x, 3, 3, 3, 3, 3, 2);
        for (int odd : ODD) {
            due("odd n", x.reach(odd), BAD);
        }
        due("beyond", x.reach(4), BAD);
        reachAre(x, "at first", 0, 0, 0, 0);
        x.answer(5, true);
        x.answer(4, false);
        String before = look(x);
        reachAre(x, "in one more", 0, 1, 1, 1);
        unchanged("reach", x, before);
        x.quit();
        x.length(2);
        begin(x, 3, 3, 3, 3, 3, 2);
        x.answer(5, true);
        x.answer(4, false);
        reachAre(x, "where none may be asked", 0, 0, 0, 0);
        reachLater();
        reachBothWays();
        QuestionLadder z = ladder(411111, 222222);
        z.set(1, 0, ANCHOR);
        begin(z, 3, 1, 1, 1, 1, 1);
        z.answer(0, true);
        due("not done, for the anchor", z.done(), 0);
        reachAre(z, "but sure", 1, 1, 1, 1);
    }

    // Turned round, 5 less each chance, wrong answers tell what right ones told before.
    private static void reachLater() {
        QuestionLadder x = ladder(324142, 411111, 131411, 143114, 111441, 441411, 111431, 124341,
                111443, 411441);
        reachAfter(x, 5, true, "in two more", 0, 0, 1, 1);
        QuestionLadder round = ladder(231413, 144444, 424144, 412441, 444114, 114144, 444124,
                431214, 444112, 144114);
        reachAfter(round, 5, false, "in two more, turned round", 0, 0, 1, 1);
        x = ladder(112142, 134414, 421314, 442142, 111414, 413441, 143311);
        reachInThree(x, true);
        round = ladder(443413, 421141, 134241, 113413, 444141, 142114, 412244);
        reachInThree(round, false);
    }

    private static void reachAfter(QuestionLadder x, int question, boolean right, String what,
            int... want) {
        x.length(6);
        begin(x, 1, 3, 2, 1, 1, 1);
        x.answer(question, right);
        reachAre(x, what, want);
    }

    private static void reachInThree(QuestionLadder x, boolean right) {
        x.length(6);
        begin(x, 3, 2, 1, 1, 1, 2);
        x.answer(2, right);
        reachAre(x, "in three more", 0, 0, 0, 1);
        x.quit();
        x.length(3);
        begin(x, 3, 2, 1, 1, 1, 2);
        x.answer(2, right);
        reachAre(x, "without room for three more", 0, 0, 0, 0);
    }

    private static void reachBothWays() {
        // behind 12, 12, 1, 1, 1, 1: right 48 of 68, wrong 48 of 72
        reachByOne(412222, 13, 20, 1);
        reachByOne(412222, 7, 10, 0);
        // right 48 of 72, wrong 48 of 68
        reachByOne(143333, 13, 20, 1);
        reachByOne(143333, 7, 10, 0);
    }

    private static void reachByOne(int chances, int a, int b, int want) {
        for (int q = 0; q < 2; q++) {
            QuestionLadder x = q == 0 ? ladder(chances, 441111) : ladder(441111, chances);
            x.weight(0, 3);
            x.weight(1, 3);
            x.sure(a, b);
            x.begin();
            due("the first step", x.answer(1 - q, true), 1);
            reachAre(x, "by " + chances + " at " + q, 0, want, want, want);
        }
    }

    /** A sitting with these weights in which 11 of 20 are sure. */
    private static void begin(QuestionLadder x, int... weights) {
        x.sure(11, 20);
        for (int step = 0; step < 6; step++) {
            x.weight(step, weights[step]);
        }
        x.begin();
    }

    private static void reachAre(QuestionLadder x, String what, int... want) {
        for (int n = 0; n < want.length; n++) {
            due("reach(" + n + "): " + what, x.reach(n), want[n]);
        }
    }

    // ---- promise 22

    private static void count() {
        QuestionLadder x = ladder(411111, 222222, 333333);
        countAre(x, "no sitting", 3, 4, 0, 0, 0, 0, 9, 10, 0);
        x.length(2);
        x.sure(7, 8);
        x.weight(1, 3);
        x.weight(2, 2);
        x.begin();
        countAre(x, "begun", 3, 2, 1, 0, 0, 3, 7, 8, 9);
        x.answer(0, true);
        countAre(x, "one asked", 3, 2, 1, 1, 0, 2, 7, 8, 12);
        x.answer(1, false);
        countAre(x, "two asked", 3, 2, 1, 2, 0, 0, 7, 8, 36);
        x.end();
        countAre(x, "over", 3, 2, 0, 0, 1, 0, 7, 8, 0);
        x.begin();
        x.answer(0, true);
        x.quit();
        countAre(x, "quit", 3, 2, 0, 0, 1, 0, 7, 8, 0);
        due("what below", x.count(-1), BAD);
        due("what beyond", x.count(9), BAD);
        for (int odd : ODD) {
            due("odd what", x.count(odd), BAD);
        }
        x.begin();
        due("bad in a sitting", x.count(9), BAD);
        QuestionLadder y = ladder(411111, 222222);
        y.sure(1, 1);
        y.weight(0, 3);
        y.sure(11, 20);
        y.begin();
        y.answer(0, true);
        due("how many may be asked where it is done", y.count(5), 1);
    }

    private static void countAre(QuestionLadder x, String what, int... want) {
        for (int i = 0; i < want.length; i++) {
            due("count(" + i + "): " + what, x.count(i), want[i]);
        }
    }
}
