/** Each sentence of promises 1 to 9 that names a boundary case. */
public final class BankBoundsTest {
    private static final int BAD = -1, STATE = -2, FULL = -3;
    private static final int PLAIN = 0, ANCHOR = 3, FRESH = 4;

    private static final Check check = new Check("BankBoundsTest");
    private static final Edges edges = new Edges(check);

    public static void main(String[] args) {
        newObject();
        questionOfChances();
        questionRefused();
        setWhat();
        setIsSeenInFit();
        setRefused();
        setRefusedInSitting();
        length();
        lengthRefused();
        share();
        shareRefused();
        sure();
        sureRefused();
        weight();
        weightRefused();
        aboutWhat();
        aboutRefused();
        fitSets();
        fitRefused();
        check.finish();
    }

    private static void says(String where, String words) {
        check.says(where, words);
    }

    private static void due(String what, long got, long want) {
        check.due(what, got, want);
    }

    /** In every sitting there is: what is good elsewhere is STATE, what is not good stays BAD. */
    private static void refusesInSittings(String name, int first, int last, Edges.CallOf call) {
        Ladders.IN_SITTING.forEach(made -> {
            edges.refusesWithin(name, made, first, last, STATE, call);
            edges.refusesBeyond(name, made, first, last, BAD, call);
        });
    }

    // ---- promise 1

    private static void newObject() {
        says("Promise 1", "No QUESTIONS, RULES as told, no SITTING.");
        int[] counts = {0, 4, 0, 0, 0, 0, 9, 10, 0};
        QuestionLadder x = new QuestionLadder();
        for (int what = 0; what < 9; what++) {
            due("count(" + what + ")", x.count(what), counts[what]);
        }
        due("no question", x.about(0, 0), BAD);
        due("the empty set alone", x.fit(), 1);
        int[] sittings = {x.next(), x.back(), x.end(), x.quit(), x.done(), x.now(0), x.asked(0, 0),
            x.reach(0)};
        for (int answer : sittings) {
            due("no sitting", answer, STATE);
        }
        due("length", x.length(1), 4);
        due("sure", x.sure(1, 1), 9);
        for (int i = 0; i < 6; i++) {
            due("weight", x.weight(i, 3), 1);
            due("share", x.share(i / 2, 0, 6), 0);
        }
        Ladders.ten();
        due("another object's questions are not its own", new QuestionLadder().count(0), 0);
    }

    // ---- promise 2

    private static void questionOfChances() {
        says("Promise 2", "A QUESTION (its CHANCES as digits, that of STEP 0 first: 111111 .. 444444): "
                + "its number.");
        Edges.CallOf call = (x, v) -> x.question(PLAIN, 0, 0, 1, v);
        edges.takes("chances #", Ladders::empty, 111111, 111114, 0, call);
        edges.takes("chances #", Ladders::three, 444441, 444444, 3, call);
        edges.refusesBeyond("chances #", Ladders::empty, 111111, 444444, BAD, call);
        edges.refusesBeyond("chances #", Ladders::three, 111111, 444444, BAD, call);
        // too few, too many, below 0, and digits that are not told between the first and the last
        int[] bad = {0, 1, 11111, 44444, 99999, 100000, 1111111, 4444444, 1111110, 11111111,
            1111111111, -111111, -444444, -1, 111115, 111120, 440444, 400000, 199999, 333335, 222220};
        for (int chances : bad) {
            edges.leaves("chances " + chances, Ladders::three, BAD, x -> call.on(x, chances));
        }
        QuestionLadder x = new QuestionLadder();
        x.question(PLAIN, 0, 0, 1, 123443);
        int[] digits = {1, 2, 3, 4, 4, 3};
        for (int step = 0; step < 6; step++) {
            due("chance at step " + step, x.about(0, 5 + step), digits[step]);
        }
    }

    private static void questionRefused() {
        says("Promise 2", "BAD; STATE; FULL.");
        refusesInSittings("question(#, 0, 0, 1, 222222)", 0, 4, (x, v) -> x.question(v, 0, 0, 1, 222222));
        refusesInSittings("question(0, #, 0, 1, 222222)", 0, 2, (x, v) -> x.question(0, v, 0, 1, 222222));
        refusesInSittings("question(0, 0, #, 1, 222222)", 0, 2, (x, v) -> x.question(0, 0, v, 1, 222222));
        refusesInSittings("question(0, 0, 0, #, 222222)", 1, 99, (x, v) -> x.question(0, 0, 0, v, 222222));
        refusesInSittings("question(0, 0, 0, 1, #)", 111111, 444444, (x, v) -> x.question(0, 0, 0, 1, v));
        edges.refusesWithin("question(#, 0, 0, 1, 222222)", Ladders::ten, 0, 4, FULL,
                (x, v) -> x.question(v, 0, 0, 1, 222222));
        edges.refusesWithin("question(0, 0, 0, #, 222222)", Ladders::ten, 1, 99, FULL,
                (x, v) -> x.question(0, 0, 0, v, 222222));
        edges.refusesBeyond("question(0, 0, 0, #, 222222)", Ladders::ten, 1, 99, BAD,
                (x, v) -> x.question(0, 0, 0, v, 222222));
        edges.refusesBeyond("question(0, #, #, 1, 222222)", Ladders::ten, 0, 2, BAD,
                (x, v) -> x.question(0, v, v, 1, 222222));
        QuestionLadder x = Ladders.alike(9);
        x.question(9, 0, 0, 1, 222222);
        due("what was BAD took no number", x.question(PLAIN, 0, 0, 1, 222222), 9);
        x.question(PLAIN, 0, 0, 1, 222222);
        due("what was FULL took none", x.count(0), 10);
    }

    // ---- promise 3

    private static final int[] FIRSTS = {0, 0, 0, 1};
    private static final int[] LASTS = {4, 2, 2, 99};

    private static void setWhat() {
        says("Promise 3", "A QUESTION's KIND (0), GROUP (1), CONTENT (2), LIMIT (3) becomes v: what it was.");
        QuestionLadder ten = Ladders.ten();
        for (int q = 0; q < 10; q++) {
            for (int what = 0; what < 4; what++) {
                due("to the last", ten.set(q, what, LASTS[what]), ten(q, what));
                due("to the first", ten.set(q, what, FIRSTS[what]), LASTS[what]);
                due("to what it is", ten.set(q, what, FIRSTS[what]), FIRSTS[what]);
                for (int other = 0; other < 4; other++) {
                    due("about(" + q + ", " + other + ")", ten.about(q, other),
                            other <= what ? FIRSTS[other] : ten(q, other));
                }
            }
        }
        QuestionLadder x = Ladders.three();
        x.set(2, 3, 1);
        due("how often it was shown stays", x.about(2, 4), 1);
        due("its chances stay", x.about(2, 8), 4);
    }

    private static void setIsSeenInFit() {
        says("Promise 3", "A QUESTION's KIND (0), GROUP (1), CONTENT (2), LIMIT (3) becomes v: what it was.");
        for (int group = 0; group < 3; group++) {
            QuestionLadder x = Ladders.alike(2);
            int other = (group + 1) % 3;
            x.set(0, 1, group);
            x.set(1, 1, group);
            int[] fits = {4, 2, 3, 1, 4};
            for (int kind = 0; kind < 5; kind++) {
                x.set(0, 0, kind);
                x.set(1, 0, kind);
                due("two of kind " + kind, x.fit(), fits[kind]);
                x.set(1, 0, PLAIN);
                due("one of kind " + kind + ", one plain", x.fit(), kind == ANCHOR ? 2 : 4);
                x.set(1, 0, kind);
                x.set(1, 1, other);
                due("of two groups", x.fit(), kind == ANCHOR ? 1 : 4);
                x.set(1, 1, group);
                due("of one group again", x.fit(), fits[kind]);
            }
            x.share(group, 0, 0);
            x.share(other, 1, 1);
            x.set(0, 2, group);
            x.set(1, 2, other);
            due("one content must, one must not", x.fit(), 1);
            x.set(1, 2, group);
            due("none of the content that must", x.fit(), 0);
            x.set(0, 2, other);
            due("the other of it", x.fit(), 1);
        }
    }

    /** What Ladders.ten tells of a question. */
    private static int ten(int question, int what) {
        int kind = question == 8 ? FRESH : PLAIN;
        return new int[] {kind, question % 2, question % 3, 9 + question}[what];
    }

    private static void setRefused() {
        says("Promise 3", "BAD; STATE.");
        for (int what = 0; what < 4; what++) {
            int w = what;
            edges.refusesBeyond("set(#, " + w + ", 1)", Ladders::three, 0, 2, BAD,
                    (x, v) -> x.set(v, w, 1));
            edges.refusesBeyond("set(#, " + w + ", 1)", Ladders::ten, 0, 9, BAD,
                    (x, v) -> x.set(v, w, 1));
            edges.refusesBeyond("set(#, " + w + ", 1)", Ladders::empty, 0, -1, BAD,
                    (x, v) -> x.set(v, w, 1));
            edges.refusesBeyond("set(2, " + w + ", #)", Ladders::three, FIRSTS[w], LASTS[w], BAD,
                    (x, v) -> x.set(2, w, v));
            edges.refusesBeyond("set(9, " + w + ", #)", Ladders::ten, FIRSTS[w], LASTS[w], BAD,
                    (x, v) -> x.set(9, w, v));
        }
        edges.refusesBeyond("set(0, #, 1)", Ladders::three, 0, 3, BAD, (x, v) -> x.set(0, v, 1));
        for (int what = 4; what < 11; what++) {
            int w = what;
            edges.leaves("set(0, " + w + ", 1), which about would tell", Ladders::three, BAD,
                    x -> x.set(0, w, 1));
        }
    }

    private static void setRefusedInSitting() {
        says("Promise 3", "BAD; STATE.");
        for (int what = 0; what < 4; what++) {
            int w = what;
            Edges.CallOf call = (x, v) -> x.set(0, w, v);
            String name = "set(0, " + w + ", #)";
            edges.refusesWithin(name, Ladders::threeBegun, FIRSTS[w], LASTS[w], STATE, call);
            edges.refusesWithin(name, Ladders::wholeLength, FIRSTS[w], LASTS[w], STATE, call);
            edges.refusesWithin(name, Ladders::sureEarly, FIRSTS[w], LASTS[w], STATE, call);
            edges.refusesWithin(name, Ladders::emptyBegun, FIRSTS[w], LASTS[w], BAD, call);
            edges.refusesBeyond(name, Ladders::threeUnderWay, FIRSTS[w], LASTS[w], BAD, call);
            edges.refusesBeyond("set(#, " + w + ", 1)", Ladders::threeUnderWay, 0, 2, BAD,
                    (x, v) -> x.set(v, w, 1));
        }
        edges.refusesBeyond("set(0, #, 1)", Ladders::threeUnderWay, 0, 3, BAD, (x, v) -> x.set(0, v, 1));
        QuestionLadder x = Ladders.threeUnderWay();
        x.quit();
        due("behind the sitting it is taken", x.set(0, 3, 99), 5);
    }

    // ---- promise 4

    private static void length() {
        says("Promise 4", "LENGTH: what it was.");
        QuestionLadder x = new QuestionLadder();
        int was = 4;
        for (int n : new int[] {1, 6, 6, 5, 2, 1, 1}) {
            due("length(" + n + ")", x.length(n), was);
            due("count(1)", x.count(1), n);
            was = n;
        }
    }

    private static void lengthRefused() {
        says("Promise 4", "BAD; STATE.");
        edges.refusesBeyond("length(#)", Ladders::empty, 1, 6, BAD, (x, v) -> x.length(v));
        edges.refusesBeyond("length(#)", Ladders::three, 1, 6, BAD, (x, v) -> x.length(v));
        refusesInSittings("length(#)", 1, 6, (x, v) -> x.length(v));
        QuestionLadder x = Ladders.threeUnderWay();
        x.quit();
        due("behind the sitting it is taken", x.length(6), 3);
    }

    // ---- promise 5

    private static void share() {
        says("Promise 5", "LOW, HIGH of a CONTENT: LOW as it was.");
        for (int content = 0; content < 3; content++) {
            QuestionLadder x = Ladders.alike(6);
            x.length(6);
            for (int q = 0; q < 6; q++) {
                x.set(q, 2, content);
            }
            due("share(0, 6)", x.share(content, 0, 6), 0);
            due("all sets", x.fit(), 64);
            due("share(6, 6)", x.share(content, 6, 6), 0);
            due("the whole set", x.fit(), 1);
            due("share(0, 0)", x.share(content, 0, 0), 6);
            due("the empty set", x.fit(), 1);
            due("share(3, 3), LOW as high as HIGH", x.share(content, 3, 3), 0);
            due("sets of three", x.fit(), 20);
            due("share(2, 4)", x.share(content, 2, 4), 3);
            due("sets of two to four", x.fit(), 50);
            for (int other = 0; other < 3; other++) {
                due("LOW of content " + other, x.share(other, 0, 6), other == content ? 2 : 0);
            }
        }
    }

    private static void shareRefused() {
        says("Promise 5", "BAD: LOW above HIGH, too; STATE.");
        for (int content = 0; content < 3; content++) {
            for (int low = 0; low <= 6; low++) {
                for (int high = 0; high <= 6; high++) {
                    if (low > high) {
                        int[] v = {content, low, high};
                        edges.leaves("share(" + content + ", " + low + ", " + high + ")",
                                Ladders::three, BAD, x -> x.share(v[0], v[1], v[2]));
                    } else {
                        due("share(" + content + ", " + low + ", " + high + ")",
                                new QuestionLadder().share(content, low, high), 0);
                    }
                }
            }
        }
        edges.leaves("share(0, greatest, least)", Ladders::three, BAD,
                x -> x.share(0, Integer.MAX_VALUE, Integer.MIN_VALUE));
        edges.leaves("share(0, least, greatest)", Ladders::three, BAD,
                x -> x.share(0, Integer.MIN_VALUE, Integer.MAX_VALUE));
        refusesInSittings("share(#, 1, 5)", 0, 2, (x, v) -> x.share(v, 1, 5));
        refusesInSittings("share(1, #, 6)", 0, 6, (x, v) -> x.share(1, v, 6));
        refusesInSittings("share(1, 0, #)", 0, 6, (x, v) -> x.share(1, 0, v));
        refusesInSittings("share(1, 3, #)", 3, 6, (x, v) -> x.share(1, 3, v));
        QuestionLadder x = Ladders.threeUnderWay();
        x.quit();
        due("behind the sitting it is taken", x.share(1, 0, 6), 1);
    }

    // ---- promise 6

    private static void sure() {
        says("Promise 6", "SURE: a as it was.");
        QuestionLadder x = new QuestionLadder();
        int[][] rules = {{1, 1}, {20, 20}, {11, 20}, {10, 19}, {2, 3}, {2, 2}, {2, 2}};
        int was = 9;
        for (int[] rule : rules) {
            due("sure(" + rule[0] + ", " + rule[1] + ")", x.sure(rule[0], rule[1]), was);
            due("a", x.count(6), rule[0]);
            due("b", x.count(7), rule[1]);
            was = rule[0];
        }
    }

    private static void sureRefused() {
        says("Promise 6", "BAD; STATE.");
        int[][] bad = {{10, 20}, {1, 2}, {9, 18}, {2, 4}, {3, 2}, {20, 19}, {0, 1}, {1, 0}, {0, 0},
            {21, 21}, {20, 21}, {21, 20}, {-1, -1}, {-1, 1}, {1, -1}};
        for (int[] rule : bad) {
            String call = "sure(" + rule[0] + ", " + rule[1] + ")";
            edges.leaves(call, Ladders::three, BAD, x -> x.sure(rule[0], rule[1]));
            edges.leaves(call, Ladders::threeUnderWay, BAD, x -> x.sure(rule[0], rule[1]));
        }
        refusesInSittings("sure(#, 20)", 11, 20, (x, v) -> x.sure(v, 20));
        refusesInSittings("sure(11, #)", 11, 20, (x, v) -> x.sure(11, v));
        refusesInSittings("sure(#, #)", 1, 20, (x, v) -> x.sure(v, v));
        QuestionLadder x = Ladders.threeUnderWay();
        x.quit();
        due("behind the sitting it is taken", x.sure(1, 1), 7);
    }

    // ---- promise 7

    private static void weight() {
        says("Promise 7", "The WEIGHT of a STEP with which SITTINGS begin: what it was.");
        for (int step = 0; step < 6; step++) {
            QuestionLadder x = Ladders.alike(1);
            int was = 1;
            for (int v : new int[] {3, 1, 2, 2, 3}) {
                due("weight(" + step + ", " + v + ")", x.weight(step, v), was);
                x.begin();
                due("a sitting begins with it", x.now(step), v);
                x.answer(0, true);
                due("not what it is behind an answer", x.now(step), 2 * v);
                due("end() or not", x.end() >= 0 ? 1 : 0, 1);
                was = v;
            }
            for (int other = 0; other < 6; other++) {
                due("the weight of " + other, x.weight(other, 1), other == step ? 3 : 1);
            }
        }
    }

    private static void weightRefused() {
        says("Promise 7", "BAD; STATE.");
        for (int step = 0; step < 6; step++) {
            int s = step;
            edges.refusesBeyond("weight(" + s + ", #)", Ladders::empty, 1, 3, BAD,
                    (x, v) -> x.weight(s, v));
            refusesInSittings("weight(" + s + ", #)", 1, 3, (x, v) -> x.weight(s, v));
        }
        edges.refusesBeyond("weight(#, 1)", Ladders::empty, 0, 5, BAD, (x, v) -> x.weight(v, 1));
        refusesInSittings("weight(#, 2)", 0, 5, (x, v) -> x.weight(v, 2));
        QuestionLadder x = Ladders.threeUnderWay();
        x.quit();
        due("behind the sitting it is taken", x.weight(1, 1), 3);
    }

    // ---- promise 8

    private static void aboutWhat() {
        says("Promise 8", "Of a QUESTION: 0 KIND, 1 GROUP, 2 CONTENT, 3 LIMIT, 4 how often it was shown, "
                + "5 .. 10 CHANCE at STEP 0 .. 5.");
        int[][] made = {{0, 0, 0, 1, 111111}, {4, 2, 2, 99, 444444}, {1, 1, 2, 50, 123421},
            {2, 2, 1, 98, 431234}, {3, 0, 1, 2, 212121}};
        QuestionLadder x = new QuestionLadder();
        for (int i = 0; i < 10; i++) {
            int[] q = made[i % 5];
            x.question(q[0], q[1], q[2], q[3], q[4]);
        }
        for (int i = 0; i < 10; i++) {
            int[] q = made[i % 5];
            for (int what = 0; what < 4; what++) {
                due("about(" + i + ", " + what + ")", x.about(i, what), q[what]);
            }
            due("about(" + i + ", 4)", x.about(i, 4), 0);
            for (int step = 5, rest = q[4]; step >= 0; step--, rest /= 10) {
                due("about(" + i + ", " + (5 + step) + ")", x.about(i, 5 + step), rest % 10);
            }
        }
        QuestionLadder y = Ladders.alike(2);
        y.begin();
        due("not shown", y.about(0, 4), 0);
        y.answer(0, true);
        due("shown once", y.about(0, 4), 1);
        y.back();
        due("not shown", y.about(0, 4), 0);
        y.answer(0, true);
        y.answer(1, true);
        y.end();
        due("shown once behind the sitting", y.about(0, 4), 1);
    }

    private static void aboutRefused() {
        says("Promise 8", "BAD.");
        edges.refusesBeyond("about(#, 0)", Ladders::empty, 0, -1, BAD, (x, v) -> x.about(v, 0));
        edges.refusesBeyond("about(#, 10)", Ladders::three, 0, 2, BAD, (x, v) -> x.about(v, 10));
        edges.refusesBeyond("about(#, 4)", Ladders::ten, 0, 9, BAD, (x, v) -> x.about(v, 4));
        edges.refusesBeyond("about(#, 4)", Ladders::wholeLength, 0, 9, BAD, (x, v) -> x.about(v, 4));
        edges.refusesBeyond("about(0, #)", Ladders::three, 0, 10, BAD, (x, v) -> x.about(0, v));
        edges.refusesBeyond("about(2, #)", Ladders::threeUnderWay, 0, 10, BAD, (x, v) -> x.about(2, v));
        edges.refusesBeyond("about(#, #)", Ladders::ten, 0, 10, BAD, (x, v) -> x.about(v, v));
        edges.leaves("about(0, 0)", Ladders::empty, BAD, x -> x.about(0, 0));
        edges.leaves("about(0, 0)", Ladders::emptyBegun, BAD, x -> x.about(0, 0));
        // BAD alone is named here, so a sitting refuses nothing
        edges.leaves("about(2, 3) in a sitting", Ladders::threeUnderWay, 2, x -> x.about(2, 3));
        edges.leaves("about(9, 3) in a sitting", Ladders::wholeLength, 18, x -> x.about(9, 3));
    }

    // ---- promise 9

    private static void fitSets() {
        says("Promise 9", "How many SETS are FIT (as for a SITTING that begins).");
        due("of no question the empty set", new QuestionLadder().fit(), 1);
        due("none", Ladders.notFit().fit(), 0);
        due("of one", Ladders.alike(1).fit(), 2);
        QuestionLadder x = Ladders.alike(10);
        x.length(6);
        due("the most there are", x.fit(), 848);
        x.set(0, 3, 1);
        x.length(1);
        due("with one of LIMIT 1", x.fit(), 11);
        x.begin();
        x.answer(0, true);
        x.end();
        due("behind its sitting", x.fit(), 10);
        edges.leaves("fit()", Ladders::three, 4, y -> y.fit());
        edges.leaves("fit()", Ladders::notFit, 0, y -> y.fit());
    }

    private static void fitRefused() {
        says("Promise 9", "STATE.");
        Ladders.IN_SITTING.forEach(made -> edges.leaves("fit()", made, STATE, x -> x.fit()));
        QuestionLadder x = Ladders.threeUnderWay();
        due("in a sitting", x.fit(), STATE);
        due("the sitting goes on", x.answer(0, true), 2);
        x.quit();
        due("behind it", x.fit(), 4);
        x = Ladders.sureEarly();
        x.end();
        due("behind end()", x.fit(), 4);
    }
}
