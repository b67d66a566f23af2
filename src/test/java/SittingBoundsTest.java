/** Each sentence of promises 10 to 22 that names a boundary case. */
public final class SittingBoundsTest {
    private static final int BAD = -1, STATE = -2, NONE = -9;
    private static final int TEXT = 1, ANCHOR = 3, FRESH = 4;

    private static final Check check = new Check("SittingBoundsTest");
    private static final Edges edges = new Edges(check);

    public static void main(String[] args) {
        begin();
        beginRefused();
        nextNone();
        nextRefused();
        answerHowMany();
        answerRefusedAsBad();
        answerRefusedAsState();
        back();
        backRefused();
        endLeastStep();
        endRefused();
        quit();
        quitRefused();
        may();
        mayRefused();
        gain();
        gainRefused();
        done();
        doneRefused();
        now();
        nowRefused();
        asked();
        askedRefused();
        reach();
        reachRefused();
        count();
        countInSitting();
        countRefused();
        check.finish();
    }

    private static void says(String where, String words) {
        check.says(where, words);
    }

    private static void due(String what, long got, long want) {
        check.due(what, got, want);
    }

    private static void refusedWithoutSitting(String name, Edges.Call call) {
        Ladders.WITHOUT_SITTING.forEach(made -> edges.leaves(name, made, STATE, call));
    }

    // ---- promise 10

    private static void begin() {
        says("Promise 10", "A SITTING begins: how many QUESTIONS MAY be asked.");
        due("no question", new QuestionLadder().begin(), 0);
        for (int number = 1; number <= 10; number++) {
            QuestionLadder x = Ladders.alike(number);
            due(number + " questions", x.begin(), number);
            due("under way", x.count(2), 1);
            due("nothing asked", x.count(3), 0);
            due("nothing asked", x.asked(0, 0), BAD);
        }
        QuestionLadder x = Ladders.alike(10);
        for (int q = 0; q < 4; q++) {
            x.set(q, 0, ANCHOR);
        }
        due("as many anchors as LENGTH", x.begin(), 4);
        x = Ladders.alike(3);
        x.share(0, 0, 0);
        due("the empty set alone is fit", x.begin(), 0);
        x = Ladders.alike(1);
        x.set(0, 3, 1);
        x.begin();
        x.answer(0, true);
        x.end();
        due("the only one shown to its limit", x.begin(), 0);
        x = Ladders.alike(5);
        for (int q = 0; q < 5; q++) {
            x.set(q, 0, TEXT);
        }
        due("more texts than LENGTH", x.begin(), 0);
        x.quit();
        x.length(5);
        due("as many texts as LENGTH", x.begin(), 5);
        x = Ladders.threeLeft();
        due("behind one that was left", x.begin(), 3);
        due("its answer is not there", x.asked(0, 0), BAD);
        due("its weights are not there", x.now(1), 3);
    }

    private static void beginRefused() {
        says("Promise 10", "STATE: one is under way, or no SET is FIT.");
        Ladders.IN_SITTING.forEach(made -> edges.leaves("begin()", made, STATE, x -> x.begin()));
        edges.leaves("begin() with more anchors than LENGTH", Ladders::notFit, STATE, x -> x.begin());
        QuestionLadder x = Ladders.notFit();
        x.begin();
        due("none is under way", x.count(2), 0);
        due("so the bank is free", x.length(2), 1);
        due("and then one set is fit", x.begin(), 2);
        edges.leaves("begin() with LOW 1 and no question", () -> {
            QuestionLadder y = new QuestionLadder();
            y.share(2, 1, 1);
            return y;
        }, STATE, y -> y.begin());
        edges.leaves("begin() with an anchor shown to its limit", () -> {
            QuestionLadder y = Ladders.alike(2);
            y.set(0, 0, ANCHOR);
            y.set(0, 3, 1);
            y.length(1);
            y.begin();
            y.answer(0, true);
            y.end();
            return y;
        }, STATE, y -> y.begin());
    }

    // ---- promise 11

    private static void nextNone() {
        says("Promise 11", "NONE: it is DONE, or none MAY be asked.");
        edges.leaves("next(), no question", Ladders::emptyBegun, NONE, x -> x.next());
        edges.leaves("next(), the whole length", Ladders::wholeLength, NONE, x -> x.next());
        edges.leaves("next(), sure with one left", Ladders::sureEarly, NONE, x -> x.next());
        due("which may be asked", Ladders.sureEarly().may(1), 1);
        edges.leaves("next(), nothing asked", Ladders::tenBegun, 0, x -> x.next());
        QuestionLadder x = Ladders.alike(10);
        x.length(6);
        x.begin();
        for (int i = 0; i < 6; i++) {
            due("next() where " + i + " were asked", x.next(), i);
            x.answer(i, true);
        }
        due("next() where all were", x.next(), NONE);
        x.back();
        due("next() behind back()", x.next(), 5);
    }

    private static void nextRefused() {
        says("Promise 11", "STATE: no SITTING.");
        refusedWithoutSitting("next()", x -> x.next());
        QuestionLadder x = Ladders.sureEarly();
        x.end();
        due("behind end()", x.next(), STATE);
    }

    // ---- promise 12

    private static void answerHowMany() {
        says("Promise 12", "A QUESTION is asked, and answered right or wrong (shown once more): how many "
                + "were asked.");
        QuestionLadder x = Ladders.alike(10);
        x.length(6);
        x.begin();
        for (int i = 0; i < 6; i++) {
            int q = 9 - i;
            due("not shown yet", x.about(q, 4), 0);
            due("answer(" + q + ", ..)", x.answer(q, i % 2 == 0), i + 1);
            due("shown once more", x.about(q, 4), 1);
            due("asked", x.asked(i, 0), q);
            due("right or wrong", x.asked(i, 1), i % 2 == 0 ? 1 : 0);
        }
        due("end()", x.end(), 0);
        x.begin();
        due("the first of another sitting", x.answer(9, true), 1);
        due("shown twice", x.about(9, 4), 2);
        due("right: times the chance", x.now(0), 2);
        x.back();
        x.answer(9, false);
        due("wrong: times 5 less that", x.now(0), 3);
    }

    private static void answerRefusedAsBad() {
        says("Promise 12", "BAD; STATE: no SITTING, it is DONE, or it MAY not be.");
        for (boolean right : new boolean[] {true, false}) {
            Edges.CallOf call = (x, v) -> x.answer(v, right);
            String name = "answer(#, " + right + ")";
            edges.refusesBeyond(name, Ladders::empty, 0, -1, BAD, call);
            edges.refusesBeyond(name, Ladders::three, 0, 2, BAD, call);
            edges.refusesBeyond(name, Ladders::emptyBegun, 0, -1, BAD, call);
            edges.refusesBeyond(name, Ladders::threeUnderWay, 0, 2, BAD, call);
            edges.refusesBeyond(name, Ladders::tenBegun, 0, 9, BAD, call);
            edges.refusesBeyond(name, Ladders::wholeLength, 0, 9, BAD, call);
            edges.refusesBeyond(name, Ladders::sureEarly, 0, 1, BAD, call);
        }
    }

    private static void answerRefusedAsState() {
        says("Promise 12", "BAD; STATE: no SITTING, it is DONE, or it MAY not be.");
        for (boolean right : new boolean[] {true, false}) {
            Edges.CallOf call = (x, v) -> x.answer(v, right);
            String name = "answer(#, " + right + ")";
            edges.refusesWithin(name + ", no sitting", Ladders::three, 0, 2, STATE, call);
            edges.refusesWithin(name + ", one was left", Ladders::threeLeft, 0, 2, STATE, call);
            edges.refusesWithin(name + ", no set is fit", Ladders::notFit, 0, 1, STATE, call);
            edges.refusesWithin(name + ", sure", Ladders::sureEarly, 0, 1, STATE, call);
            edges.refusesWithin(name + ", spent", Ladders::wholeLength, 0, 9, STATE, call);
            edges.leaves("answer(1, ..), it was asked", Ladders::threeUnderWay, STATE,
                    x -> x.answer(1, right));
            edges.leaves("answer(1, ..), only anchors", () -> {
                QuestionLadder x = Ladders.alike(2);
                x.set(0, 0, ANCHOR);
                x.length(1);
                x.begin();
                return x;
            }, STATE, x -> x.answer(1, right));
            edges.leaves("answer(0, ..), shown to its limit", () -> {
                QuestionLadder x = Ladders.alike(2);
                x.set(0, 3, 1);
                x.length(1);
                x.begin();
                x.answer(0, false);
                x.end();
                x.begin();
                return x;
            }, STATE, x -> x.answer(0, right));
        }
    }

    // ---- promise 13

    private static void back() {
        says("Promise 13", "The latest answer is as if it had not been (what was shown, too): how many "
                + "are left.");
        QuestionLadder x = Ladders.ten();
        x.length(6);
        x.sure(20, 20);
        x.begin();
        String[] seen = new String[7];
        for (int i = 0; i < 6; i++) {
            seen[i] = sitting(x);
            x.answer(9 - i, i % 2 == 0);
        }
        seen[6] = sitting(x);
        for (int left = 5; left >= 0; left--) {
            due("back() to " + left, x.back(), left);
            due("as it was with " + left, sitting(x).equals(seen[left]) ? 1 : 0, 1);
        }
        QuestionLadder y = Ladders.sureEarly();
        due("out of what is sure", y.back(), 0);
        due("not done any more", y.done(), 0);
        due("shown as before", y.about(0, 4), 0);
        due("the other way then", y.answer(1, false), 1);
    }

    /** What of a sitting can be seen in few calls. */
    private static String sitting(QuestionLadder x) {
        StringBuilder seen = new StringBuilder();
        for (int i = 0; i < 10; i++) {
            seen.append(x.about(i, 4)).append(x.may(i)).append(' ');
            seen.append(x.now(i)).append(x.asked(i, 0)).append(x.asked(i, 1)).append(' ');
        }
        return seen.append(x.count(3)).append(x.done()).append(x.next()).toString();
    }

    private static void backRefused() {
        says("Promise 13", "STATE: no SITTING, none.");
        refusedWithoutSitting("back()", x -> x.back());
        edges.leaves("back(), no question", Ladders::emptyBegun, STATE, x -> x.back());
        edges.leaves("back(), nothing asked", Ladders::threeBegun, STATE, x -> x.back());
        edges.leaves("back(), nothing asked", Ladders::tenBegun, STATE, x -> x.back());
        QuestionLadder x = Ladders.wholeLength();
        for (int left = 5; left >= 0; left--) {
            due("back()", x.back(), left);
        }
        due("once more", x.back(), STATE);
        due("and again", x.back(), STATE);
        due("nothing is shown below 0", x.about(9, 4), 0);
        x = Ladders.sureEarly();
        x.end();
        due("behind end()", x.back(), STATE);
    }

    // ---- promise 14

    private static void endLeastStep() {
        says("Promise 14", "The SITTING is over: the STEP with the greatest ODDS (of several the least).");
        due("all alike", endOf(222222), 0);
        due("the last alone", endOf(111112), 5);
        due("the first alone", endOf(211111), 0);
        due("the last two", endOf(111122), 4);
        due("the first and the last", endOf(211112), 0);
        due("the second and the last", endOf(121112), 1);
        due("no question", Ladders.emptyBegun().end(), 0);
        for (int step = 0; step < 6; step++) {
            QuestionLadder x = Ladders.emptyBegun();
            x.quit();
            x.weight(step, 3);
            x.weight((step + 1) % 6, 2);
            x.begin();
            due("end()", x.end(), step);
            due("over", x.count(2), 0);
            due("one over", x.count(4), 1);
        }
        QuestionLadder x = Ladders.sureEarly();
        due("sure", x.end(), 0);
        due("what was shown stays", x.about(0, 4), 1);
        due("the bank is free", x.length(1), 4);
    }

    /** The step of one right answer, with a question of these chances. */
    private static int endOf(int chances) {
        QuestionLadder x = Ladders.plain(chances);
        x.begin();
        x.answer(0, true);
        return x.end();
    }

    private static void endRefused() {
        says("Promise 14", "STATE: no SITTING, or it is not DONE.");
        refusedWithoutSitting("end()", x -> x.end());
        edges.leaves("end(), nothing asked", Ladders::threeBegun, STATE, x -> x.end());
        edges.leaves("end(), one asked", Ladders::threeUnderWay, STATE, x -> x.end());
        edges.leaves("end(), one is missing", () -> {
            QuestionLadder x = Ladders.wholeLength();
            x.back();
            return x;
        }, STATE, x -> x.end());
        edges.leaves("end(), sure without the anchor", () -> {
            QuestionLadder x = Ladders.sureEarly();
            x.quit();
            x.set(1, 0, ANCHOR);
            x.begin();
            x.answer(0, true);
            return x;
        }, STATE, x -> x.end());
        QuestionLadder x = Ladders.sureEarly();
        x.end();
        due("end() twice", x.end(), STATE);
        due("is over once", x.count(4), 1);
    }

    // ---- promise 15

    private static void quit() {
        says("Promise 15", "The SITTING is as if it had not been: how many had been asked (they are shown "
                + "so many times less).");
        due("no question", Ladders.emptyBegun().quit(), 0);
        for (int asked = 0; asked <= 6; asked++) {
            QuestionLadder x = Ladders.ten();
            x.length(6);
            x.sure(20, 20);
            String before = Sight.asItIs(x);
            x.begin();
            for (int i = 0; i < asked; i++) {
                x.answer(i, true);
            }
            due("quit()", x.quit(), asked);
            due("as before", Sight.asItIs(x).equals(before) ? 1 : 0, 1);
        }
        QuestionLadder x = Ladders.threeUnderWay();
        due("shown twice", x.about(1, 4), 2);
        due("quit()", x.quit(), 1);
        due("shown as in the sitting that was over", x.about(1, 4), 1);
        due("that one stays over", x.count(4), 1);
        x = Ladders.sureEarly();
        due("done does not hinder", x.quit(), 1);
        due("none was over", x.count(4), 0);
    }

    private static void quitRefused() {
        says("Promise 15", "STATE.");
        refusedWithoutSitting("quit()", x -> x.quit());
        QuestionLadder x = Ladders.wholeLength();
        due("quit()", x.quit(), 6);
        due("quit() twice", x.quit(), STATE);
        due("nothing is shown below 0", x.about(9, 4), 0);
        x = Ladders.sureEarly();
        x.end();
        due("behind end()", x.quit(), STATE);
        due("what was shown stays", x.about(0, 4), 1);
    }

    // ---- promise 16

    private static void may() {
        says("Promise 16", "Whether a QUESTION MAY be asked.");
        edges.takes("may(#), nothing asked", Ladders::tenBegun, 0, 9, 1, (x, v) -> x.may(v));
        edges.takes("may(#), whole length", Ladders::wholeLength, 0, 9, 0, (x, v) -> x.may(v));
        due("was asked", Ladders.threeUnderWay().may(1), 0);
        due("the one before", Ladders.threeUnderWay().may(0), 1);
        due("the one behind", Ladders.threeUnderWay().may(2), 1);
        due("where it is sure, too", Ladders.sureEarly().may(1), 1);
        edges.leaves("may(1)", Ladders::sureEarly, 1, x -> x.may(1));
    }

    private static void mayRefused() {
        says("Promise 16", "BAD; STATE.");
        Edges.CallOf call = (x, v) -> x.may(v);
        edges.refusesBeyond("may(#)", Ladders::empty, 0, -1, BAD, call);
        edges.refusesBeyond("may(#)", Ladders::three, 0, 2, BAD, call);
        edges.refusesBeyond("may(#)", Ladders::ten, 0, 9, BAD, call);
        edges.refusesBeyond("may(#)", Ladders::emptyBegun, 0, -1, BAD, call);
        edges.refusesBeyond("may(#)", Ladders::threeUnderWay, 0, 2, BAD, call);
        edges.refusesBeyond("may(#)", Ladders::wholeLength, 0, 9, BAD, call);
        edges.refusesWithin("may(#)", Ladders::three, 0, 2, STATE, call);
        edges.refusesWithin("may(#)", Ladders::threeLeft, 0, 2, STATE, call);
        edges.refusesWithin("may(#)", Ladders::ten, 0, 9, STATE, call);
        edges.refusesWithin("may(#)", Ladders::notFit, 0, 1, STATE, call);
        QuestionLadder x = Ladders.sureEarly();
        x.end();
        due("behind end()", x.may(1), STATE);
    }

    // ---- promise 17

    private static void gain() {
        says("Promise 17", "Which of two QUESTIONS has the greater GAIN now: 1 the first, -1 the second, "
                + "0 neither.");
        QuestionLadder x = Ladders.plain(222222, 441111, 114411, 444111, 222222, 222222, 222222, 222222,
                222222, 444441);
        x.begin();
        due("the first", x.gain(3, 0), 1);
        due("the second", x.gain(0, 3), -1);
        due("neither: alike", x.gain(0, 8), 0);
        due("neither: as much elsewhere", x.gain(1, 2), 0);
        due("the first question and the last", x.gain(0, 9), -1);
        due("the last question and the first", x.gain(9, 0), 1);
        for (int q = 0; q < 10; q++) {
            due("neither: itself", x.gain(q, q), 0);
        }
        x.answer(3, true);
        due("now another", x.gain(1, 2), 1);
        due("of one that was asked", x.gain(3, 0), 1);
        due("where none may be asked", Ladders.wholeLength().gain(9, 9), 0);
        // 2309 of 53 and 224 of 32, by 164 of 20 and 2369 of 65
        due("where it is sure", Ladders.sureEarly().gain(0, 1), 1);
    }

    private static void gainRefused() {
        says("Promise 17", "BAD is told as -2, STATE as -3.");
        for (int good = 0; good < 2; good++) {
            int g = good;
            String first = "gain(#, " + g + ")";
            String second = "gain(" + g + ", #)";
            edges.refusesBeyond(first, Ladders::three, 0, 2, -2, (x, v) -> x.gain(v, g));
            edges.refusesBeyond(second, Ladders::three, 0, 2, -2, (x, v) -> x.gain(g, v));
            edges.refusesBeyond(first, Ladders::threeUnderWay, 0, 2, -2, (x, v) -> x.gain(v, g));
            edges.refusesBeyond(second, Ladders::threeUnderWay, 0, 2, -2, (x, v) -> x.gain(g, v));
            edges.refusesBeyond(first, Ladders::wholeLength, 0, 9, -2, (x, v) -> x.gain(v, g));
            edges.refusesBeyond(second, Ladders::wholeLength, 0, 9, -2, (x, v) -> x.gain(g, v));
            edges.refusesWithin(first, Ladders::three, 0, 2, -3, (x, v) -> x.gain(v, g));
            edges.refusesWithin(second, Ladders::ten, 0, 9, -3, (x, v) -> x.gain(g, v));
            edges.refusesWithin(second, Ladders::threeLeft, 0, 2, -3, (x, v) -> x.gain(g, v));
        }
        edges.refusesBeyond("gain(#, #)", Ladders::empty, 0, -1, -2, (x, v) -> x.gain(v, v));
        edges.refusesBeyond("gain(#, #)", Ladders::emptyBegun, 0, -1, -2, (x, v) -> x.gain(v, v));
        QuestionLadder x = Ladders.sureEarly();
        x.end();
        due("behind end()", x.gain(0, 1), -3);
        due("bad behind end()", x.gain(0, 2), -2);
    }

    // ---- promise 18

    private static void done() {
        says("Promise 18", "0 not DONE, 1 SURE (also if SPENT), 2 SPENT alone.");
        edges.leaves("done(), nothing asked", Ladders::tenBegun, 0, x -> x.done());
        edges.leaves("done(), one asked", Ladders::threeUnderWay, 0, x -> x.done());
        edges.leaves("done(), sure", Ladders::sureEarly, 1, x -> x.done());
        edges.leaves("done(), whole length", Ladders::wholeLength, 2, x -> x.done());
        edges.leaves("done(), no question", Ladders::emptyBegun, 2, x -> x.done());
        edges.leaves("done(), sure and spent", () -> {
            QuestionLadder x = Ladders.sureEarly();
            x.quit();
            x.length(1);
            x.begin();
            x.answer(0, true);
            return x;
        }, 1, x -> x.done());
        edges.leaves("done(), spent below a of b", () -> {
            QuestionLadder x = Ladders.sureEarly();
            x.quit();
            x.length(1);
            x.sure(13, 18);
            x.begin();
            x.answer(0, true);
            return x;
        }, 2, x -> x.done());
    }

    private static void doneRefused() {
        says("Promise 18", "STATE: no SITTING.");
        refusedWithoutSitting("done()", x -> x.done());
        QuestionLadder x = Ladders.sureEarly();
        x.end();
        due("behind end()", x.done(), STATE);
    }

    // ---- promise 19

    private static void now() {
        says("Promise 19", "The WEIGHT of a STEP now (in a SITTING).");
        QuestionLadder x = Ladders.plain(123432);
        int[] begun = {3, 1, 2, 1, 1, 3};
        int[] right = {3, 2, 6, 4, 3, 6};
        int[] wrong = {12, 3, 4, 1, 2, 9};
        for (int step = 0; step < 6; step++) {
            x.weight(step, begun[step]);
        }
        x.begin();
        nowAre("begun", x, begun);
        x.answer(0, true);
        nowAre("right", x, right);
        x.back();
        nowAre("back", x, begun);
        x.answer(0, false);
        nowAre("wrong", x, wrong);
        x.quit();
        x.set(0, 0, FRESH);
        x.begin();
        x.answer(0, false);
        nowAre("fresh", x, begun);
        edges.takes("now(#), no question", Ladders::emptyBegun, 0, 5, 1, (y, v) -> y.now(v));
    }

    private static void nowAre(String what, QuestionLadder x, int[] want) {
        for (int step = 0; step < 6; step++) {
            due("now(" + step + "), " + what, x.now(step), want[step]);
        }
    }

    private static void nowRefused() {
        says("Promise 19", "BAD; STATE.");
        Edges.CallOf call = (x, v) -> x.now(v);
        Ladders.WITHOUT_SITTING.forEach(made -> {
            edges.refusesWithin("now(#)", made, 0, 5, STATE, call);
            edges.refusesBeyond("now(#)", made, 0, 5, BAD, call);
        });
        Ladders.IN_SITTING.forEach(made -> edges.refusesBeyond("now(#)", made, 0, 5, BAD, call));
        QuestionLadder x = Ladders.sureEarly();
        x.end();
        due("behind end()", x.now(0), STATE);
    }

    // ---- promise 20

    private static void asked() {
        says("Promise 20", "Of what was asked: the i-th QUESTION (what = 0), whether it was answered "
                + "right (1).");
        QuestionLadder x = Ladders.wholeLength();
        for (int i = 0; i < 6; i++) {
            due("asked(" + i + ", 0)", x.asked(i, 0), 9 - i);
            due("asked(" + i + ", 1)", x.asked(i, 1), i % 2 == 0 ? 1 : 0);
        }
        x.back();
        due("the last that is left", x.asked(4, 0), 5);
        due("the one taken back", x.asked(5, 0), BAD);
        x.answer(2, true);
        due("another in its place", x.asked(5, 0), 2);
        due("and its answer", x.asked(5, 1), 1);
    }

    private static void askedRefused() {
        says("Promise 20", "BAD: i below 0, what, and, in a SITTING, i beyond what was asked; STATE: no "
                + "SITTING.");
        for (int what = 0; what < 2; what++) {
            int w = what;
            Edges.CallOf call = (x, v) -> x.asked(v, w);
            String name = "asked(#, " + w + ")";
            edges.refusesBeyond(name, Ladders::emptyBegun, 0, -1, BAD, call);
            edges.refusesBeyond(name, Ladders::tenBegun, 0, -1, BAD, call);
            edges.refusesBeyond(name, Ladders::threeUnderWay, 0, 0, BAD, call);
            edges.refusesBeyond(name, Ladders::sureEarly, 0, 0, BAD, call);
            edges.refusesBeyond(name, Ladders::wholeLength, 0, 5, BAD, call);
            edges.leaves("asked(0, " + w + "), nothing asked", Ladders::tenBegun, BAD, x -> x.asked(0, w));
            // without a sitting no i is beyond what was asked
            Ladders.WITHOUT_SITTING.forEach(made -> {
                edges.refusesWithin(name, made, 0, 5, STATE, call);
                edges.refusesWithin(name, made, 6, Integer.MAX_VALUE, STATE, call);
                edges.refusesWithin(name, made, Integer.MIN_VALUE, -1, BAD, call);
            });
        }
        Ladders.WITHOUT_SITTING.forEach(made -> edges.refusesBeyond("asked(0, #)", made, 0, 1, BAD,
                (x, v) -> x.asked(0, v)));
        edges.refusesBeyond("asked(0, #)", Ladders::threeUnderWay, 0, 1, BAD, (x, v) -> x.asked(0, v));
        edges.refusesBeyond("asked(5, #)", Ladders::wholeLength, 0, 1, BAD, (x, v) -> x.asked(5, v));
        edges.refusesBeyond("asked(6, #)", Ladders::wholeLength, 0, 1, BAD, (x, v) -> x.asked(6, v));
        QuestionLadder x = Ladders.sureEarly();
        x.end();
        due("behind end()", x.asked(0, 0), STATE);
        due("far on behind end()", x.asked(1, 0), STATE);
    }

    // ---- promise 21

    private static void reach() {
        says("Promise 21", "Whether REACH (n) holds.");
        edges.takes("reach(#), sure", Ladders::sureEarly, 0, 3, 1, (x, v) -> x.reach(v));
        edges.takes("reach(#), spent", Ladders::wholeLength, 0, 3, 0, (x, v) -> x.reach(v));
        edges.takes("reach(#), no question", Ladders::emptyBegun, 0, 3, 0, (x, v) -> x.reach(v));
        for (int n = 0; n <= 3; n++) {
            int more = n;
            edges.leaves("reach(" + n + "), begun", Ladders::tenBegun, 0, x -> x.reach(more));
            edges.leaves("reach(" + n + "), under way", Ladders::threeUnderWay, 0, x -> x.reach(more));
        }
        // behind 12, 12, 1, 1, 1, 1 the last finds it, right or wrong, to 2 of 3 at least
        QuestionLadder x = Ladders.plain(441111, 412222);
        x.weight(0, 3);
        x.weight(1, 3);
        x.sure(2, 3);
        x.begin();
        x.answer(0, true);
        due("reach(0)", x.reach(0), 0);
        due("reach(1)", x.reach(1), 1);
        due("reach(3)", x.reach(3), 1);
        due("the weights are left as they are", x.now(0), 12);
        due("nothing was shown by it", x.about(1, 4), 0);
    }

    private static void reachRefused() {
        says("Promise 21", "BAD; STATE.");
        Edges.CallOf call = (x, v) -> x.reach(v);
        Ladders.WITHOUT_SITTING.forEach(made -> {
            edges.refusesWithin("reach(#)", made, 0, 3, STATE, call);
            edges.refusesBeyond("reach(#)", made, 0, 3, BAD, call);
        });
        Ladders.IN_SITTING.forEach(made -> edges.refusesBeyond("reach(#)", made, 0, 3, BAD, call));
        QuestionLadder x = Ladders.sureEarly();
        x.end();
        due("behind end()", x.reach(0), STATE);
    }

    // ---- promise 22

    private static void countAre(String what, QuestionLadder x, int... want) {
        for (int i = 0; i < want.length; i++) {
            due("count(" + i + "), " + what, x.count(i), want[i]);
        }
    }

    private static void count() {
        says("Promise 22", "0 QUESTIONS, 1 LENGTH, 2 whether a SITTING is under way, 3 how many were asked "
                + "in it, 4 SITTINGS that were over, 5 how many MAY be asked now (0 without)");
        countAre("new", Ladders.empty(), 0, 4, 0, 0, 0, 0, 9, 10, 0);
        countAre("one sitting over", Ladders.three(), 3, 3, 0, 0, 1, 0, 7, 8, 0);
        countAre("one left", Ladders.threeLeft(), 3, 3, 0, 0, 1, 0, 7, 8, 0);
        countAre("ten", Ladders.ten(), 10, 4, 0, 0, 0, 0, 9, 10, 0);
        countAre("no set is fit", Ladders.notFit(), 2, 1, 0, 0, 0, 0, 9, 10, 0);
        QuestionLadder x = Ladders.wholeLength();
        x.end();
        countAre("a whole one over", x, 10, 6, 0, 0, 1, 0, 20, 20, 0);
        for (int over = 2; over < 50; over++) {
            x.length(1);
            x.set(0, 3, 99);
            x.begin();
            x.answer(0, true);
            x.end();
            due("count(4)", x.count(4), over);
        }
    }

    private static void countInSitting() {
        says("Promise 22", "5 how many MAY be asked now (0 without), 6 a, 7 b of SURE, 8 the sum of WEIGHTS "
                + "now (0 without)");
        countAre("no question", Ladders.emptyBegun(), 0, 4, 1, 0, 0, 0, 9, 10, 6);
        countAre("begun", Ladders.threeBegun(), 3, 3, 1, 0, 1, 3, 7, 8, 9);
        countAre("one asked", Ladders.threeUnderWay(), 3, 3, 1, 1, 1, 2, 7, 8, 24);
        countAre("sure", Ladders.sureEarly(), 2, 4, 1, 1, 0, 1, 12, 17, 17);
        countAre("ten", Ladders.tenBegun(), 10, 4, 1, 0, 0, 10, 9, 10, 6);
        due("whole length: asked", Ladders.wholeLength().count(3), 6);
        due("whole length: may be asked", Ladders.wholeLength().count(5), 0);
        QuestionLadder x = Ladders.plain(444444, 444444, 444444, 444444, 444444, 444444);
        x.length(6);
        x.sure(20, 20);
        for (int step = 0; step < 6; step++) {
            x.weight(step, 3);
        }
        x.begin();
        for (int q = 0; q < 6; q++) {
            x.answer(q, true);
        }
        due("the greatest sum there is", x.count(8), 6 * 3 * 4096);
        x.quit();
        due("none without", x.count(8), 0);
    }

    private static void countRefused() {
        says("Promise 22", "BAD.");
        Edges.CallOf call = (x, v) -> x.count(v);
        Ladders.WITHOUT_SITTING.forEach(made -> edges.refusesBeyond("count(#)", made, 0, 8, BAD, call));
        Ladders.IN_SITTING.forEach(made -> edges.refusesBeyond("count(#)", made, 0, 8, BAD, call));
        edges.leaves("count(9), the one beyond", Ladders::wholeLength, BAD, x -> x.count(9));
    }
}
