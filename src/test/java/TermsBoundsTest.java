/** Each sentence under 'Terms' that names a boundary case, and how many calls an object is used for. */
public final class TermsBoundsTest {
    private static final int BAD = -1, STATE = -2, FULL = -3;
    private static final int PLAIN = 0, TEXT = 1, FOE = 2, ANCHOR = 3, FRESH = 4;

    private static final Check check = new Check("TermsBoundsTest");
    private static final Edges edges = new Edges(check);

    public static void main(String[] args) {
        calls512();
        steps0To5();
        tenQuestionsFrom0On();
        kinds0To4();
        groups0To2();
        contents0To2();
        limits1To99();
        chances1To4();
        length1To6();
        askedLengthAtMost();
        lowAndHigh0To6();
        sure1To20();
        fitHasLengthAtMost();
        fitKeepsLow();
        fitKeepsHigh();
        fitHasAllAnchors();
        fitHasOneFoeAtMost();
        fitHasAllTextsOrNone();
        fitHasNoneShownToItsLimit();
        fitMindsNotWhatWasAsked();
        weights1To3();
        rulesAsTheyAreThen();
        answersThatCount();
        oddsBySum();
        mayNotTwice();
        mayInSomeFitSet();
        mayLeastText();
        gainOfSums();
        gainOfFresh();
        nextOfSeveralTheLeast();
        doneNeedsFitSet();
        doneAtOddsOfAOfB();
        doneWhereNoneMay();
        reach0To3();
        reachOfNone();
        reachOfMore();
        stateOfTheBank();
        badBeforeState();
        stateBeforeFull();
        badBeforeFull();
        check.finish();
    }

    private static void says(String where, String words) {
        check.says(where, words);
    }

    private static void due(String what, long got, long want) {
        check.due(what, got, want);
    }

    // ---- What it is

    private static void calls512() {
        says("What it is", "An object is used for at most 512 calls after it has been made");
        QuestionLadder x = new QuestionLadder();
        due("call 1", x.question(PLAIN, 0, 0, 99, 222222), 0);
        due("call 2", x.question(PLAIN, 0, 0, 99, 411111), 1);
        due("call 3", x.length(1), 4);
        due("call 4", x.question(FRESH, 0, 0, 1, 411111), 2);
        for (int i = 0; i < 168; i++) {
            int q = i < 99 ? 0 : 1;
            due("begin() of sitting " + i, x.begin(), i < 99 ? 3 : 2);
            due("answer of sitting " + i, x.answer(q, true), 1);
            due("end() of sitting " + i, x.end(), 0);
        }
        due("call 509", x.about(0, 4), 99);
        due("call 510", x.about(1, 4), 69);
        due("call 511", x.count(4), 168);
        due("call 512", x.fit(), 3);
    }

    // ---- Terms 1

    private static void steps0To5() {
        says("Terms 1", "STEPS are 0 .. 5.");
        edges.takes("weight(#, 3)", Ladders::empty, 0, 5, 1, (x, v) -> x.weight(v, 3));
        edges.refusesBeyond("weight(#, 3)", Ladders::three, 0, 5, BAD, (x, v) -> x.weight(v, 3));
        edges.takes("now(#)", Ladders::tenBegun, 0, 5, 1, (x, v) -> x.now(v));
        edges.refusesBeyond("now(#)", Ladders::tenBegun, 0, 5, BAD, (x, v) -> x.now(v));
        for (int step = 0; step < 6; step++) {
            QuestionLadder x = Ladders.alike(1);
            x.weight(step, 3);
            x.begin();
            for (int other = 0; other < 6; other++) {
                due("now(" + other + ") behind weight(" + step + ", 3)", x.now(other),
                        other == step ? 3 : 1);
            }
        }
    }

    private static void tenQuestionsFrom0On() {
        says("Terms 1", "QUESTIONS (10 at most), numbered from 0 on");
        QuestionLadder x = new QuestionLadder();
        due("no question at first", x.about(0, 0), BAD);
        for (int i = 0; i < 10; i++) {
            due("how many there are", x.count(0), i);
            due("the next number is no question yet", x.about(i, 0), BAD);
            due("number " + i, x.question(PLAIN, 0, 0, 1, 222222), i);
        }
        due("how many there are", x.count(0), 10);
        edges.leaves("an eleventh", Ladders::ten, FULL, y -> y.question(0, 0, 0, 1, 222222));
        edges.refusesBeyond("about(#, 0)", Ladders::ten, 0, 9, BAD, (y, v) -> y.about(v, 0));
        edges.refusesBeyond("about(#, 0)", Ladders::three, 0, 2, BAD, (y, v) -> y.about(v, 0));
    }

    private static void kinds0To4() {
        says("Terms 1", "are of KINDS 0 PLAIN, 1 TEXT, 2 FOE, 3 ANCHOR, 4 FRESH");
        Edges.CallOf made = (x, v) -> x.question(v, 0, 0, 1, 222222);
        edges.takes("question(#, 0, 0, 1, 222222)", Ladders::empty, 0, 4, 0, made);
        edges.puts("question(#, 0, 0, 1, 222222)", Ladders::empty, 0, 4, made, x -> x.about(0, 0));
        edges.refusesBeyond("question(#, 0, 0, 1, 222222)", Ladders::three, 0, 4, BAD, made);
        Edges.CallOf set = (x, v) -> x.set(0, 0, v);
        edges.takes("set(0, 0, #)", Ladders::three, 0, 4, PLAIN, set);
        edges.puts("set(0, 0, #)", Ladders::three, 0, 4, set, x -> x.about(0, 0));
        edges.refusesBeyond("set(0, 0, #)", Ladders::three, 0, 4, BAD, set);
    }

    private static void groups0To2() {
        says("Terms 1", "have a GROUP 0 .. 2");
        Edges.CallOf made = (x, v) -> x.question(0, v, 0, 1, 222222);
        edges.takes("question(0, #, 0, 1, 222222)", Ladders::empty, 0, 2, 0, made);
        edges.puts("question(0, #, 0, 1, 222222)", Ladders::empty, 0, 2, made, x -> x.about(0, 1));
        edges.refusesBeyond("question(0, #, 0, 1, 222222)", Ladders::three, 0, 2, BAD, made);
        Edges.CallOf set = (x, v) -> x.set(2, 1, v);
        edges.takes("set(2, 1, #)", Ladders::three, 0, 2, 2, set);
        edges.puts("set(2, 1, #)", Ladders::three, 0, 2, set, x -> x.about(2, 1));
        edges.refusesBeyond("set(2, 1, #)", Ladders::three, 0, 2, BAD, set);
        for (int group = 0; group < 3; group++) {
            for (int other = 0; other < 3; other++) {
                QuestionLadder x = new QuestionLadder();
                x.question(FOE, group, 0, 1, 222222);
                x.question(FOE, other, 0, 1, 222222);
                due("foes of groups " + group + ", " + other, x.fit(), group == other ? 3 : 4);
            }
        }
    }

    private static void contents0To2() {
        says("Terms 1", "a CONTENT 0 .. 2");
        Edges.CallOf made = (x, v) -> x.question(0, 0, v, 1, 222222);
        edges.takes("question(0, 0, #, 1, 222222)", Ladders::empty, 0, 2, 0, made);
        edges.puts("question(0, 0, #, 1, 222222)", Ladders::empty, 0, 2, made, x -> x.about(0, 2));
        edges.refusesBeyond("question(0, 0, #, 1, 222222)", Ladders::three, 0, 2, BAD, made);
        Edges.CallOf set = (x, v) -> x.set(1, 2, v);
        edges.takes("set(1, 2, #)", Ladders::three, 0, 2, 1, set);
        edges.puts("set(1, 2, #)", Ladders::three, 0, 2, set, x -> x.about(1, 2));
        edges.refusesBeyond("set(1, 2, #)", Ladders::three, 0, 2, BAD, set);
        for (int content = 0; content < 3; content++) {
            for (int other = 0; other < 3; other++) {
                QuestionLadder x = new QuestionLadder();
                x.question(PLAIN, 0, content, 1, 222222);
                x.share(other, 0, 0);
                due("content " + content + " with none of " + other, x.fit(),
                        content == other ? 1 : 2);
            }
        }
        edges.takes("share(#, 0, 6)", Ladders::empty, 0, 2, 0, (x, v) -> x.share(v, 0, 6));
        edges.refusesBeyond("share(#, 0, 6)", Ladders::three, 0, 2, BAD, (x, v) -> x.share(v, 0, 6));
    }

    private static void limits1To99() {
        says("Terms 1", "a LIMIT (how many times they may be shown in all, 1 .. 99)");
        Edges.CallOf made = (x, v) -> x.question(0, 0, 0, v, 222222);
        edges.takes("question(0, 0, 0, #, 222222)", Ladders::empty, 1, 99, 0, made);
        edges.puts("question(0, 0, 0, #, 222222)", Ladders::empty, 1, 99, made, x -> x.about(0, 3));
        edges.refusesBeyond("question(0, 0, 0, #, 222222)", Ladders::three, 1, 99, BAD, made);
        Edges.CallOf set = (x, v) -> x.set(1, 3, v);
        edges.takes("set(1, 3, #)", Ladders::three, 1, 99, 3, set);
        edges.puts("set(1, 3, #)", Ladders::three, 1, 99, set, x -> x.about(1, 3));
        edges.refusesBeyond("set(1, 3, #)", Ladders::three, 1, 99, BAD, set);
        shownInAll(1);
        shownInAll(2);
        shownInAll(98);
        shownInAll(99);
    }

    private static void shownInAll(int limit) {
        QuestionLadder x = Ladders.alike(1);
        x.set(0, 3, limit);
        for (int i = 0; i < limit; i++) {
            due("begin() with LIMIT " + limit + " and shown " + i, x.begin(), 1);
            x.answer(0, true);
            x.end();
        }
        due("shown as often as LIMIT " + limit, x.about(0, 4), limit);
        due("begin() then", x.begin(), 0);
        due("answer then", x.answer(0, true), STATE);
    }

    private static void chances1To4() {
        says("Terms 1", "at each STEP a CHANCE of 1 .. 4 fifths that the answer is right");
        int one = 100000;
        for (int step = 0; step < 6; step++, one /= 10) {
            for (int chance = 1; chance <= 4; chance++) {
                for (int others = 1; others <= 4; others += 3) {
                    int digits = others * 111111 + (chance - others) * one;
                    QuestionLadder x = new QuestionLadder();
                    due("chances " + digits, x.question(0, 0, 0, 1, digits), 0);
                    for (int at = 0; at < 6; at++) {
                        due("chance at " + at + " of " + digits, x.about(0, 5 + at),
                                at == step ? chance : others);
                    }
                }
            }
            for (int chance : new int[] {0, 5, 6, 9}) {
                int digits = 444444 + (chance - 4) * one;
                edges.leaves("chances " + digits, Ladders::three, BAD,
                        x -> x.question(0, 0, 0, 1, digits));
            }
        }
    }

    private static void length1To6() {
        says("Terms 1", "LENGTH (1 .. 6; 4 at first)");
        due("at first", new QuestionLadder().count(1), 4);
        edges.takes("length(#)", Ladders::empty, 1, 6, 4, (x, v) -> x.length(v));
        edges.puts("length(#)", Ladders::empty, 1, 6, (x, v) -> x.length(v), x -> x.count(1));
        edges.refusesBeyond("length(#)", Ladders::three, 1, 6, BAD, (x, v) -> x.length(v));
    }

    private static void askedLengthAtMost() {
        says("Terms 1", "at most so many are asked in a SITTING");
        for (int n = 1; n <= 6; n++) {
            QuestionLadder x = Ladders.alike(10);
            x.length(n);
            x.begin();
            for (int i = 0; i < n; i++) {
                due("may be asked where " + i + " of " + n + " were", x.count(5), 10 - i);
                due("answer", x.answer(i, true), i + 1);
            }
            due("may be asked where all " + n + " were", x.count(5), 0);
            due("one more", x.answer(n, true), STATE);
            due("none more was asked", x.count(3), n);
            due("none more was shown", x.about(n, 4), 0);
        }
    }

    private static void lowAndHigh0To6() {
        says("Terms 1", "of each CONTENT at least LOW, at most HIGH (0 .. 6; 0 and 6 at first)");
        for (int content = 0; content < 3; content++) {
            int c = content;
            due("LOW at first", new QuestionLadder().share(c, 0, 6), 0);
            QuestionLadder six = Ladders.alike(6);
            for (int q = 0; q < 6; q++) {
                six.set(q, 2, c);
            }
            six.length(6);
            due("six with HIGH at first", six.fit(), 64);
            six.share(c, 0, 5);
            due("six with HIGH 5", six.fit(), 63);
            edges.takes("share(" + c + ", #, 6)", Ladders::empty, 0, 6, 0,
                    (x, v) -> x.share(c, v, 6));
            edges.puts("share(" + c + ", #, 6)", Ladders::empty, 0, 6,
                    (x, v) -> x.share(c, v, 6), x -> x.share(c, 0, 6));
            edges.takes("share(" + c + ", 0, #)", Ladders::empty, 0, 6, 0,
                    (x, v) -> x.share(c, 0, v));
            edges.refusesBeyond("share(" + c + ", #, 6)", Ladders::three, 0, 6, BAD,
                    (x, v) -> x.share(c, v, 6));
            edges.refusesBeyond("share(" + c + ", 0, #)", Ladders::three, 0, 6, BAD,
                    (x, v) -> x.share(c, 0, v));
        }
        edges.refusesBeyond("share(0, #, #)", Ladders::three, 0, 6, BAD, (x, v) -> x.share(0, v, v));
    }

    private static void sure1To20() {
        says("Terms 1", "SURE: a of b (1 .. 20 each, a at most b, 2 a more than b; 9 of 10 at first)");
        due("a at first", new QuestionLadder().count(6), 9);
        due("b at first", new QuestionLadder().count(7), 10);
        for (int a = -1; a <= 22; a++) {
            for (int b = -1; b <= 22; b++) {
                boolean good = a >= 1 && b >= 1 && a <= 20 && b <= 20 && a <= b && 2 * a > b;
                QuestionLadder x = new QuestionLadder();
                String call = "sure(" + a + ", " + b + ")";
                due(call, x.sure(a, b), good ? 9 : BAD);
                due("a behind " + call, x.count(6), good ? a : 9);
                due("b behind " + call, x.count(7), good ? b : 10);
            }
        }
        edges.refusesBeyond("sure(#, 20)", Ladders::three, 11, 20, BAD, (x, v) -> x.sure(v, 20));
        edges.refusesBeyond("sure(1, #)", Ladders::three, 1, 1, BAD, (x, v) -> x.sure(1, v));
        edges.refusesBeyond("sure(20, #)", Ladders::three, 20, 20, BAD, (x, v) -> x.sure(20, v));
        edges.refusesBeyond("sure(#, #)", Ladders::three, 1, 20, BAD, (x, v) -> x.sure(v, v));
        // 2 a wraps round here
        int half = 1 << 30;
        edges.leaves("sure(2^30, 20)", Ladders::three, BAD, x -> x.sure(half, 20));
        edges.leaves("sure(2^30 + 1, 20)", Ladders::three, BAD, x -> x.sure(half + 1, 20));
        edges.leaves("sure(-2^30 - 1, 20)", Ladders::three, BAD, x -> x.sure(-half - 1, 20));
        edges.leaves("sure(11, least)", Ladders::three, BAD, x -> x.sure(11, Integer.MIN_VALUE));
    }

    // ---- Terms 1: a set that is fit

    /** How many sets of so many things have from low to high of them. */
    private static int sets(int things, int low, int high) {
        int all = 0;
        for (int k = Math.max(low, 0); k <= Math.min(high, things); k++) {
            int some = 1;
            for (int i = 0; i < k; i++) {
                some = some * (things - i) / (i + 1);
            }
            all += some;
        }
        return all;
    }

    private static void fitHasLengthAtMost() {
        says("Terms 1", "A SET of QUESTIONS is FIT, if it has at most LENGTH");
        for (int questions = 0; questions <= 10; questions++) {
            for (int n = 1; n <= 6; n++) {
                QuestionLadder x = Ladders.alike(questions);
                x.length(n);
                due("of " + questions + " with LENGTH " + n, x.fit(), sets(questions, 0, n));
            }
        }
    }

    private static QuestionLadder withShare(int questions, int n, int low, int high) {
        QuestionLadder x = Ladders.alike(questions);
        x.length(n);
        x.share(0, low, high);
        return x;
    }

    private static void fitKeepsLow() {
        says("Terms 1", "keeps LOW and HIGH");
        for (int low = 0; low <= 6; low++) {
            for (int questions = 0; questions <= 10; questions++) {
                due("of " + questions + " with LOW " + low, withShare(questions, 6, low, 6).fit(),
                        sets(questions, low, 6));
                due("of " + questions + " with LENGTH 3, LOW " + low,
                        withShare(questions, 3, low, 6).fit(), sets(questions, low, 3));
            }
        }
        QuestionLadder none = new QuestionLadder();
        due("the empty set without LOW", none.fit(), 1);
        none.share(2, 1, 6);
        due("the empty set with LOW 1 of a content", none.fit(), 0);
    }

    private static void fitKeepsHigh() {
        says("Terms 1", "keeps LOW and HIGH");
        for (int high = 0; high <= 6; high++) {
            for (int questions = 0; questions <= 10; questions++) {
                due("of " + questions + " with HIGH " + high, withShare(questions, 6, 0, high).fit(),
                        sets(questions, 0, high));
                due("of " + questions + " with LOW and HIGH " + high,
                        withShare(questions, 6, high, high).fit(), sets(questions, high, high));
            }
        }
    }

    /** Ten questions, so many of them of a kind, all of one group. */
    private static QuestionLadder withKind(int kind, int number) {
        QuestionLadder x = Ladders.alike(10);
        for (int q = 0; q < number; q++) {
            x.set(9 - q, 0, kind);
        }
        return x;
    }

    private static void fitHasAllAnchors() {
        says("Terms 1", "has all ANCHORS");
        for (int anchors = 0; anchors <= 10; anchors++) {
            for (int n = 1; n <= 6; n++) {
                QuestionLadder x = withKind(ANCHOR, anchors);
                x.length(n);
                due(anchors + " anchors with LENGTH " + n, x.fit(),
                        sets(10 - anchors, 0, n - anchors));
            }
        }
    }

    private static void fitHasOneFoeAtMost() {
        says("Terms 1", "of the FOES of each GROUP one at most");
        for (int foes = 0; foes <= 10; foes++) {
            for (int n = 1; n <= 6; n++) {
                QuestionLadder x = withKind(FOE, foes);
                x.length(n);
                due(foes + " foes with LENGTH " + n, x.fit(),
                        sets(10 - foes, 0, n) + foes * sets(10 - foes, 0, n - 1));
            }
        }
        QuestionLadder x = withKind(FOE, 6);
        for (int q = 4; q < 10; q++) {
            x.set(q, 1, q % 3);
        }
        x.share(0, 3, 3);
        x.length(3);
        // three of the four plain ones; a foe and two; foes of two groups and one; of each group one
        due("two foes of each group, sets of three", x.fit(), 4 + 6 * 6 + 3 * 4 * 4 + 8);
    }

    private static void fitHasAllTextsOrNone() {
        says("Terms 1", "of the TEXTS of each GROUP all or none");
        for (int texts = 0; texts <= 10; texts++) {
            for (int n = 1; n <= 6; n++) {
                QuestionLadder x = withKind(TEXT, texts);
                x.length(n);
                int withThem = texts == 0 ? 0 : sets(10 - texts, 0, n - texts);
                due(texts + " texts with LENGTH " + n, x.fit(), sets(10 - texts, 0, n) + withThem);
            }
        }
        QuestionLadder x = withKind(TEXT, 6);
        for (int q = 4; q < 10; q++) {
            x.set(q, 1, q % 3);
        }
        // of three pairs two have room, or one and two plain ones
        due("two texts of each group", x.fit(), sets(4, 0, 4) + 3 * sets(4, 0, 2) + 3);
    }

    private static void fitHasNoneShownToItsLimit() {
        says("Terms 1", "none that has been shown as often as its LIMIT");
        QuestionLadder x = Ladders.alike(2);
        x.length(1);
        for (int i = 0; i < 3; i++) {
            x.begin();
            x.answer(1, true);
            x.end();
        }
        due("shown three times of 99", x.fit(), 3);
        int[] limits = {4, 3, 2, 1, 2, 3, 4, 99};
        int[] wants = {3, 2, 2, 2, 2, 2, 3, 3};
        for (int i = 0; i < limits.length; i++) {
            x.set(1, 3, limits[i]);
            due("shown three times of " + limits[i], x.fit(), wants[i]);
        }
        x.set(1, 3, 3);
        x.set(1, 0, ANCHOR);
        due("an anchor shown to its limit", x.fit(), 0);
        x.set(1, 0, TEXT);
        x.set(0, 0, TEXT);
        x.length(2);
        due("a text whose other was shown to its limit", x.fit(), 1);
    }

    private static void fitMindsNotWhatWasAsked() {
        says("Terms 1", "(but what was asked in this SITTING)");
        QuestionLadder x = Ladders.alike(2);
        x.set(0, 3, 1);
        x.set(0, 0, ANCHOR);
        due("begin()", x.begin(), 2);
        due("the anchor, to its limit", x.answer(0, true), 1);
        due("shown", x.about(0, 4), 1);
        due("the other may be asked with it", x.may(1), 1);
        due("reach looks on with it", x.reach(1), 0);
        due("the other", x.answer(1, true), 2);
        due("what was asked is fit", x.done(), 2);
        due("end()", x.end(), 0);
        due("not so in another sitting", x.begin(), STATE);
        due("nor in fit()", x.fit(), 0);
        QuestionLadder y = Ladders.alike(1);
        y.set(0, 3, 1);
        y.begin();
        y.answer(0, true);
        due("back()", y.back(), 0);
        due("may be asked again", y.may(0), 1);
        due("and answered again", y.answer(0, false), 1);
        due("quit()", y.quit(), 1);
        due("as not shown", y.begin(), 1);
    }

    // ---- Terms 2

    private static void weights1To3() {
        says("Terms 2", "A SITTING begins with WEIGHTS of the STEPS (1 .. 3 each; 1 at first)");
        QuestionLadder first = Ladders.emptyBegun();
        for (int step = 0; step < 6; step++) {
            int s = step;
            due("at first", first.now(s), 1);
            edges.takes("weight(" + s + ", #)", Ladders::empty, 1, 3, 1, (x, v) -> x.weight(s, v));
            edges.puts("weight(" + s + ", #)", Ladders::empty, 1, 3, (x, v) -> {
                x.weight(s, v);
                return x.begin();
            }, x -> x.now(s));
            edges.refusesBeyond("weight(" + s + ", #)", Ladders::three, 1, 3, BAD,
                    (x, v) -> x.weight(s, v));
        }
    }

    private static void rulesAsTheyAreThen() {
        says("Terms 2", "and the RULES as they are then");
        QuestionLadder x = Ladders.alike(6);
        x.begin();
        x.quit();
        x.length(2);
        x.share(0, 1, 1);
        x.sure(11, 20);
        x.weight(5, 3);
        due("begin()", x.begin(), 6);
        due("the weights then", x.now(5), 3);
        due("HIGH then: one is all", x.answer(0, true), 1);
        due("none may be asked", x.count(5), 0);
        x.quit();
        x.share(0, 0, 6);
        x.weight(5, 1);
        x.set(1, 0, FRESH);
        x.begin();
        due("the weights then", x.now(5), 1);
        x.answer(1, true);
        due("the kind then", x.now(5), 1);
        x.answer(0, true);
        due("the length then", x.done(), 2);
    }

    private static void answersThatCount() {
        says("Terms 2", "An answer to a QUESTION that COUNTS (all but FRESH): each WEIGHT times the "
                + "CHANCE there (right), times 5 less that (wrong).");
        for (int kind = PLAIN; kind <= FRESH; kind++) {
            for (int chance = 1; chance <= 4; chance++) {
                for (int step = 0; step < 6; step++) {
                    timesAt(kind, chance, step);
                }
            }
        }
        QuestionLadder x = Ladders.plain(444411, 444411, 444411, 444411, 444411, 444411);
        x.length(6);
        x.weight(0, 3);
        x.weight(5, 3);
        x.begin();
        for (int q = 0; q < 6; q++) {
            x.answer(q, true);
        }
        due("the greatest weight there is", x.now(0), 3 * 4096);
        due("the least weight there is", x.now(4), 1);
        due("times 1, six times", x.now(5), 3);
    }

    private static void timesAt(int kind, int chance, int step) {
        int one = 1;
        for (int i = step; i < 5; i++) {
            one *= 10;
        }
        QuestionLadder x = new QuestionLadder();
        x.question(kind, 0, 0, 9, 222222 + (chance - 2) * one);
        x.weight(step, 3);
        x.begin();
        boolean counts = kind != FRESH;
        String where = " of kind " + kind + ", chance " + chance + " at " + step;
        x.answer(0, true);
        due("right" + where, x.now(step), counts ? 3 * chance : 3);
        due("right beside" + where, x.now((step + 1) % 6), counts ? 2 : 1);
        x.back();
        x.answer(0, false);
        due("wrong" + where, x.now(step), counts ? 3 * (5 - chance) : 3);
        due("wrong beside" + where, x.now((step + 1) % 6), counts ? 3 : 1);
    }

    private static void oddsBySum() {
        says("Terms 2", "ODDS of a STEP: its WEIGHT by the sum of all.");
        // right: 12 beside five times 1, whichever step it is
        int one = 100000;
        for (int step = 0; step < 6; step++, one /= 10) {
            QuestionLadder x = Ladders.plain(111111 + 3 * one, 222222);
            x.weight(step, 3);
            x.sure(12, 17);
            x.begin();
            due("3 of 8 at " + step, x.done(), 0);
            x.answer(0, true);
            due("the sum at " + step, x.count(8), 17);
            due("12 of 17 at " + step, x.done(), 1);
            due("end()", x.end(), step);
            x.sure(13, 18);
            x.begin();
            x.answer(0, true);
            due("12 of 17 is below 13 of 18, at " + step, x.done(), 0);
        }
    }

    private static void mayNotTwice() {
        says("Terms 2", "A QUESTION MAY be asked, if it was not yet");
        QuestionLadder x = Ladders.alike(10);
        x.length(6);
        x.begin();
        for (int i = 0; i < 6; i++) {
            due("not yet asked", x.may(i), 1);
            x.answer(i, true);
            for (int q = 0; q <= i; q++) {
                due("was asked", x.may(q), 0);
            }
            due("the others", x.count(5), i < 5 ? 9 - i : 0);
        }
        x.back();
        due("not asked any more", x.may(5), 1);
    }

    private static void mayInSomeFitSet() {
        says("Terms 2", "some SET that is FIT has it and all that were asked");
        QuestionLadder x = withKind(ANCHOR, 3);
        due("room for one beside the anchors", x.begin(), 10);
        x.answer(0, true);
        due("then for the anchors alone", x.count(5), 3);
        due("not for a second", x.may(1), 0);
        due("the last anchor", x.may(9), 1);
        x.quit();
        x.length(3);
        due("no room beside the anchors", x.begin(), 3);
        due("not for one", x.may(0), 0);
        QuestionLadder y = Ladders.alike(4);
        y.set(3, 2, 1);
        y.share(1, 1, 6);
        y.share(0, 0, 2);
        y.begin();
        y.answer(0, true);
        y.answer(1, true);
        due("HIGH is reached", y.may(2), 0);
        due("LOW is not", y.may(3), 1);
        due("not done without", y.done(), 0);
        QuestionLadder z = withKind(FOE, 10);
        due("each foe alone", z.begin(), 10);
        z.answer(4, true);
        due("none beside it", z.count(5), 0);
        QuestionLadder none = Ladders.alike(3);
        none.share(0, 0, 0);
        due("none where HIGH is 0", none.begin(), 0);
        due("may(0) there", none.may(0), 0);
    }

    private static void mayLeastText() {
        says("Terms 2", "if a TEXT of a GROUP was asked and not all of that GROUP were, it is the "
                + "least one of these by number that was not");
        for (int group = 0; group < 3; group++) {
            leastTextOf(group);
        }
        QuestionLadder x = Ladders.alike(2);
        x.set(0, 0, TEXT);
        x.set(1, 0, TEXT);
        x.begin();
        x.answer(1, true);
        due("a group of two: the least is before it", x.may(0), 1);
        x.back();
        x.answer(0, true);
        due("a group of two: the least is behind it", x.may(1), 1);
    }

    private static void leastTextOf(int group) {
        QuestionLadder x = Ladders.alike(10);
        for (int q : new int[] {0, 4, 9}) {
            x.set(q, 0, TEXT);
            x.set(q, 1, group);
        }
        x.set(5, 0, TEXT);
        x.set(5, 1, (group + 1) % 3);
        x.set(6, 0, FOE);
        x.set(6, 1, group);
        x.length(6);
        due("no text was asked: all", x.begin(), 10);
        due("the last text first", x.answer(9, true), 1);
        due("one may", x.count(5), 1);
        due("the least", x.may(0), 1);
        due("not the next", x.answer(4, true), STATE);
        due("not another", x.answer(1, true), STATE);
        x.answer(0, true);
        due("one may", x.count(5), 1);
        due("the one that is left", x.may(4), 1);
        x.answer(4, true);
        due("all were asked: the seven others", x.count(5), 7);
        x.answer(5, true);
        due("a group of one text is whole at once", x.count(5), 6);
        x.quit();
        x.begin();
        x.answer(0, true);
        due("not the last before the middle", x.may(9), 0);
        due("the least that was not", x.may(4), 1);
    }

    private static void gainOfSums() {
        says("Terms 2", "the sum of squares of R by the sum of R, and the same of V, added");
        // behind six right answers of 4 fifths everywhere, all weights are 12288
        QuestionLadder x = Ladders.plain(444444, 444444, 444444, 444444, 444444, 444444,
                444111, 443111, 442111, 222223);
        x.length(6);
        x.sure(20, 20);
        for (int step = 0; step < 6; step++) {
            x.weight(step, 3);
        }
        x.begin();
        for (int i = 0; i <= 6; i++) {
            // for weights all alike: 6 4/5, 6 29/56, 6 8/17 and 5 25/221 times the weight
            for (int q = 6; q < 10; q++) {
                for (int other = 6; other < 10; other++) {
                    due("gain(" + q + ", " + other + ") behind " + i, x.gain(q, other),
                            Integer.compare(other, q));
                }
                due("more than 5 times the weight, gain(" + q + ", 5)", x.gain(q, 5), 1);
            }
            x.answer(i, true);
        }
        closeGains();
    }

    // The products across of these outgrow a long, and some wrap round to the other sign.
    private static void closeGains() {
        QuestionLadder x = Ladders.plain(112331, 341144, 333421, 331331, 312134, 111232, 322122,
                112222, 322213, 313431);
        int[] weights = {2, 1, 3, 1, 2, 3};
        boolean[] rights = {false, false, true, true, true, false};
        x.length(6);
        x.sure(20, 20);
        for (int step = 0; step < 6; step++) {
            x.weight(step, weights[step]);
        }
        x.begin();
        for (int i = 0; i < 6; i++) {
            x.answer(i, rights[i]);
        }
        due("gain(2, 1)", x.gain(2, 1), -1);
        due("gain(3, 2)", x.gain(3, 2), 1);
        due("gain(4, 2)", x.gain(4, 2), 1);
    }

    private static void gainOfFresh() {
        says("Terms 2", "of a FRESH one 5 times the sum of squares of WEIGHTS by their sum");
        for (int chances : new int[] {111111, 444444, 141414, 411111}) {
            for (int weight = 1; weight <= 3; weight++) {
                QuestionLadder x = Ladders.plain(chances, 111111, 444444, 222223);
                x.set(0, 0, FRESH);
                x.weight(0, weight);
                x.begin();
                due("as one of 1 fifth everywhere", x.gain(0, 1), 0);
                due("as one of 4 fifths everywhere", x.gain(0, 2), 0);
                due("less than one that tells a little", x.gain(0, 3), -1);
                due("the other way", x.gain(3, 0), 1);
            }
        }
    }

    private static void nextOfSeveralTheLeast() {
        says("Terms 2", "THE NEXT one is, of those that MAY be asked, that with the greatest GAIN, of "
                + "several the least number.");
        QuestionLadder x = Ladders.alike(10);
        x.length(6);
        x.begin();
        for (int i = 0; i < 6; i++) {
            due("of all alike the least that was not asked", x.next(), i);
            x.answer(i, true);
        }
        for (int best = 0; best < 10; best++) {
            QuestionLadder y = withOneThatTells(best, 9);
            due("of two alike the least", y.next(), best);
            QuestionLadder z = withOneThatTells(best, best);
            due("the only one that tells", z.next(), best);
            z.quit();
            z.set((best + 1) % 10, 0, ANCHOR);
            z.length(1);
            z.begin();
            due("only those that may", z.next(), (best + 1) % 10);
        }
    }

    private static QuestionLadder withOneThatTells(int best, int other) {
        QuestionLadder x = new QuestionLadder();
        for (int q = 0; q < 10; q++) {
            x.question(PLAIN, 0, 0, 9, q == best ? 444111 : q == other ? 111444 : 222222);
        }
        x.begin();
        return x;
    }

    private static void doneNeedsFitSet() {
        says("Terms 2", "DONE is a SITTING, if what was asked is a SET that is FIT");
        QuestionLadder x = Ladders.plain(411111, 222222, 222222);
        x.weight(0, 3);
        x.sure(12, 17);
        x.set(2, 0, ANCHOR);
        sureWithout("an anchor", x);
        x.set(2, 0, PLAIN);
        x.set(2, 2, 1);
        x.share(1, 1, 6);
        sureWithout("one for LOW", x);
        x.share(1, 0, 6);
        x.set(2, 0, TEXT);
        x.set(0, 0, TEXT);
        sureWithout("the other text", x);
    }

    private static void sureWithout(String what, QuestionLadder x) {
        x.begin();
        x.answer(0, true);
        due("odds of 12 of 17 without " + what, x.done(), 0);
        due("what may be asked comes next", x.next() >= 0 ? 1 : 0, 1);
        due("end()", x.end(), STATE);
        x.answer(2, true);
        due("with " + what, x.done(), 1);
        x.quit();
    }

    private static void doneAtOddsOfAOfB() {
        says("Terms 2", "and the greatest ODDS are a of b at least (SURE)");
        due("exactly a of b", Ladders.sureEarly().done(), 1);
        int[][] beside = {{13, 18, 0}, {5, 7, 0}, {14, 20, 1}, {7, 10, 1}, {2, 3, 1}, {11, 20, 1},
            {3, 4, 0}, {1, 1, 0}, {20, 20, 0}};
        for (int[] rule : beside) {
            QuestionLadder x = Ladders.plain(411111, 222222);
            x.weight(0, 3);
            x.sure(rule[0], rule[1]);
            x.begin();
            due("with nothing asked no odds are enough", x.done(), 0);
            x.answer(0, true);
            due("12 of 17 for " + rule[0] + " of " + rule[1], x.done(), rule[2]);
        }
    }

    private static void doneWhereNoneMay() {
        says("Terms 2", "or none MAY be asked (SPENT)");
        due("no question at all", Ladders.emptyBegun().done(), 2);
        due("the whole length", Ladders.wholeLength().done(), 2);
        QuestionLadder x = Ladders.alike(2);
        x.begin();
        x.answer(0, true);
        due("one is left", x.done(), 0);
        x.answer(1, true);
        due("all questions", x.done(), 2);
    }

    // ---- Terms 3

    private static void reach0To3() {
        says("Terms 3", "REACH (n), n 0 .. 3");
        edges.takes("reach(#)", Ladders::sureEarly, 0, 3, 1, (x, v) -> x.reach(v));
        edges.takes("reach(#)", Ladders::emptyBegun, 0, 3, 0, (x, v) -> x.reach(v));
        edges.refusesBeyond("reach(#)", Ladders::sureEarly, 0, 3, BAD, (x, v) -> x.reach(v));
        edges.refusesBeyond("reach(#)", Ladders::threeUnderWay, 0, 3, BAD, (x, v) -> x.reach(v));
    }

    private static void reachOfNone() {
        says("Terms 3", "with n 0 whether the greatest ODDS are a of b at least");
        due("exactly a of b", Ladders.sureEarly().reach(0), 1);
        QuestionLadder x = Ladders.plain(411111, 222222);
        x.weight(0, 3);
        x.sure(13, 18);
        x.begin();
        due("nothing asked", x.reach(0), 0);
        x.answer(0, true);
        due("12 of 17 is below 13 of 18", x.reach(0), 0);
        x.quit();
        x.sure(12, 17);
        x.set(1, 0, ANCHOR);
        x.begin();
        x.answer(0, true);
        due("odds alone, though it is not done", x.reach(0), 1);
    }

    private static void reachOfMore() {
        says("Terms 3", "with more whether they are, or some QUESTION that MAY be asked leads, whether "
                + "answered right or wrong, to where REACH (n - 1) holds");
        reachByOne(0);
        reachByOne(1);
        reachInThree(6, 1);
        reachInThree(4, 1);
        reachInThree(3, 0);
        reachInTwo();
        reachAre(Ladders.emptyBegun(), "an empty bank", 0, 0, 0, 0);
    }

    /** Two questions, and one of them, at the given number, finds it in one more behind the other. */
    private static void reachByOne(int way) {
        // behind 12, 12, 1, 1, 1, 1: right 48 of 68, wrong 48 of 72, which is 2 of 3
        QuestionLadder x = way == 0 ? Ladders.plain(412222, 441111) : Ladders.plain(441111, 412222);
        x.weight(0, 3);
        x.weight(1, 3);
        x.sure(2, 3);
        x.begin();
        reachAre(x, "none to go alone", 0, 0, 0, 0);
        x.answer(1 - way, true);
        reachAre(x, "right beyond 2 of 3, wrong at 2 of 3, by " + way, 0, 1, 1, 1);
        x.quit();
        x.sure(7, 10);
        x.begin();
        x.answer(1 - way, true);
        reachAre(x, "right beyond 7 of 10, wrong below, by " + way, 0, 0, 0, 0);
        x.quit();
        x.sure(2, 3);
        x.length(1);
        x.begin();
        x.answer(1 - way, true);
        reachAre(x, "none may be asked", 0, 0, 0, 0);
    }

    private static final int[] THREE_MORE = {112142, 134414, 421314, 442142, 111414, 413441, 143311};
    private static final int[] TWO_MORE = {324142, 411111, 131411, 143114, 111441, 441411, 111431, 124341,
        111443, 411441};

    /** Found in three more behind an answer to the third, if the length leaves room for them. */
    private static void reachInThree(int n, int want) {
        int[] weights = {3, 2, 1, 1, 1, 2};
        reachBehindOne("right " + n, THREE_MORE, weights, n, 2, true, 0, 0, 0, want);
        reachBehindOne("wrong " + n, turned(THREE_MORE), weights, n, 2, false, 0, 0, 0, want);
    }

    /** Found in two more behind an answer to the sixth. */
    private static void reachInTwo() {
        int[] weights = {1, 3, 2, 1, 1, 1};
        reachBehindOne("right", TWO_MORE, weights, 6, 5, true, 0, 0, 1, 1);
        reachBehindOne("wrong", turned(TWO_MORE), weights, 6, 5, false, 0, 0, 1, 1);
    }

    /** With 5 less each chance, wrong answers tell what right ones told. */
    private static int[] turned(int[] chances) {
        int[] turned = new int[chances.length];
        for (int q = 0; q < chances.length; q++) {
            turned[q] = 555555 - chances[q];
        }
        return turned;
    }

    private static void reachBehindOne(String what, int[] chances, int[] weights, int n, int question,
            boolean right, int... want) {
        QuestionLadder x = Ladders.plain(chances);
        x.length(n);
        x.sure(11, 20);
        for (int step = 0; step < 6; step++) {
            x.weight(step, weights[step]);
        }
        x.begin();
        x.answer(question, right);
        reachAre(x, "behind one, " + what, want);
        for (int more = 1; more <= 3; more++) {
            due("reach(" + more + ") by its words, " + what, x.reach(more), reachByWords(x, more));
        }
    }

    private static int reachByWords(QuestionLadder x, int n) {
        int found = x.reach(0);
        for (int q = 0; q < x.count(0) && found == 0; q++) {
            if (x.may(q) == 1) {
                found = reachBehind(x, q, true, n - 1) & reachBehind(x, q, false, n - 1);
            }
        }
        return found;
    }

    private static int reachBehind(QuestionLadder x, int question, boolean right, int n) {
        x.answer(question, right);
        int found = x.reach(n);
        x.back();
        return found;
    }

    private static void reachAre(QuestionLadder x, String what, int... want) {
        for (int n = 0; n < want.length; n++) {
            due("reach(" + n + "): " + what, x.reach(n), want[n]);
        }
    }

    // ---- what is refused

    private static void stateOfTheBank() {
        says("Terms", "(STATE in all of these: a SITTING is under way)");
        Ladders.IN_SITTING.forEach(made -> {
            edges.leaves("length(3)", made, STATE, x -> x.length(3));
            edges.leaves("share(0, 1, 1)", made, STATE, x -> x.share(0, 1, 1));
            edges.leaves("sure(3, 4)", made, STATE, x -> x.sure(3, 4));
            edges.leaves("weight(3, 3)", made, STATE, x -> x.weight(3, 3));
            edges.leaves("fit()", made, STATE, x -> x.fit());
            edges.leaves("question(..)", made, STATE, x -> x.question(3, 0, 0, 1, 222222));
        });
        edges.leaves("set(0, 0, 3)", Ladders::threeUnderWay, STATE, x -> x.set(0, 0, 3));
        edges.leaves("set(0, 3, 1)", Ladders::tenBegun, STATE, x -> x.set(0, 3, 1));
        edges.leaves("set(9, 2, 0)", Ladders::wholeLength, STATE, x -> x.set(9, 2, 0));
        edges.leaves("set(0, 1, 2)", Ladders::sureEarly, STATE, x -> x.set(0, 1, 2));
    }

    private static void badBeforeState() {
        says("Terms", "Refused, and nothing changes, the first of these: BAD (a number is not as told, "
                + "or there is no such thing), STATE (as told), FULL.");
        Ladders.IN_SITTING.forEach(made -> {
            edges.leaves("question of kind 5", made, BAD, x -> x.question(5, 0, 0, 1, 222222));
            edges.leaves("set(10, 0, 0)", made, BAD, x -> x.set(10, 0, 0));
            edges.leaves("length(7)", made, BAD, x -> x.length(7));
            edges.leaves("share(0, 2, 1)", made, BAD, x -> x.share(0, 2, 1));
            edges.leaves("sure(1, 2)", made, BAD, x -> x.sure(1, 2));
            edges.leaves("weight(6, 1)", made, BAD, x -> x.weight(6, 1));
        });
        Ladders.WITHOUT_SITTING.forEach(made -> {
            edges.leaves("answer(10, true)", made, BAD, x -> x.answer(10, true));
            edges.leaves("may(10)", made, BAD, x -> x.may(10));
            edges.leaves("gain(10, 10)", made, -2, x -> x.gain(10, 10));
            edges.leaves("now(6)", made, BAD, x -> x.now(6));
            edges.leaves("asked(-1, 0)", made, BAD, x -> x.asked(-1, 0));
            edges.leaves("reach(4)", made, BAD, x -> x.reach(4));
        });
    }

    private static void stateBeforeFull() {
        says("Terms", "Refused, and nothing changes, the first of these: BAD (a number is not as told, "
                + "or there is no such thing), STATE (as told), FULL.");
        Edges.Call good = x -> x.question(PLAIN, 0, 0, 1, 222222);
        edges.leaves("a full bank, no sitting", Ladders::ten, FULL, good);
        edges.leaves("a full bank, a sitting", Ladders::tenBegun, STATE, good);
        edges.leaves("a full bank, a whole sitting", Ladders::wholeLength, STATE, good);
    }

    private static void badBeforeFull() {
        says("Terms", "Refused, and nothing changes, the first of these: BAD (a number is not as told, "
                + "or there is no such thing), STATE (as told), FULL.");
        Edges.Call bad = x -> x.question(PLAIN, 0, 0, 1, 222225);
        edges.leaves("a full bank, no sitting", Ladders::ten, BAD, bad);
        edges.leaves("a full bank, a sitting", Ladders::tenBegun, BAD, bad);
        edges.leaves("a full bank, a whole sitting", Ladders::wholeLength, BAD, bad);
        QuestionLadder x = Ladders.alike(9);
        due("the tenth has room", x.question(PLAIN, 0, 0, 1, 222222), 9);
        due("the eleventh has none", x.question(PLAIN, 0, 0, 1, 222222), FULL);
    }
}
