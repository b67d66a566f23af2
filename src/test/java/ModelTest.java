import java.util.Random;

/**
 * The same calls, drawn from fixed seeds, on the program and on the slow model. After a refused call
 * both go on, so a refusal that changes something shows in what follows and in the look at the end.
 */
public final class ModelTest {
    private static final int RUNS = 1500;
    private static final int CALLS = 120;

    private final Random random;
    private final QuestionLadder ladder = new QuestionLadder();
    private final Model model = new Model();
    private final Check check;
    private final StringBuilder told = new StringBuilder();

    private ModelTest(int seed, Check check) {
        this.random = new Random(seed);
        this.check = check;
    }

    public static void main(String[] args) {
        Check check = new Check("ModelTest");
        for (int seed = 0; seed < RUNS && !check.isBroken(); seed++) {
            new ModelTest(seed, check).run();
        }
        check.finish();
    }

    private void run() {
        int questions = random.nextInt(11);
        boolean plainOnes = random.nextBoolean();
        for (int i = 0; i < questions; i++) {
            addQuestion(plainOnes);
        }
        for (int i = questions; i < CALLS && !check.isBroken(); i++) {
            if (model.sitting == null) {
                callOutside();
            } else {
                callInside();
            }
        }
        lookAtAll();
        if (check.isBroken()) {
            System.out.print(told);
        }
    }

    private void same(String call, int got, int want) {
        told.append("  ").append(call).append(" -> ").append(got).append('\n');
        check.due(call, got, want);
    }

    private int near(int from, int to) {
        if (random.nextInt(25) == 0) {
            int[] odd = {from - 1, to + 1, -1, Integer.MIN_VALUE, Integer.MAX_VALUE, -9, 32, 33, 1 << 16};
            return odd[random.nextInt(odd.length)];
        }
        return from + random.nextInt(to - from + 1);
    }

    private int anyQuestion() {
        return near(0, Math.max(0, model.bank.size() - 1));
    }

    private int someLimit() {
        return random.nextInt(3) == 0 ? near(1, 99) : near(1, 4);
    }

    private int someChances() {
        int chances = 0;
        int top = random.nextInt(3) == 0 ? 2 : 4;
        for (int i = 0; i < 6; i++) {
            chances = chances * 10 + near(1, top) % 10;
        }
        return random.nextInt(40) == 0 ? near(111111, 444444) : chances;
    }

    private void addQuestion(boolean plain) {
        int kind = plain && random.nextInt(3) > 0 ? 0 : near(0, 4);
        if (kind == 3 && random.nextInt(3) > 0) {
            kind = 1;
        }
        int group = near(0, 2);
        int content = near(0, 2);
        int limit = someLimit();
        int chances = someChances();
        same("question(" + kind + ", " + group + ", " + content + ", " + limit + ", " + chances + ")",
                ladder.question(kind, group, content, limit, chances),
                model.question(kind, group, content, limit, chances));
    }

    private void callOutside() {
        int draw = random.nextInt(20);
        if (draw < 8) {
            changeBank(draw);
        } else if (draw < 16) {
            same("begin()", ladder.begin(), model.begin());
        } else if (draw < 17) {
            same("fit()", ladder.fit(), model.fit());
        } else {
            callInside();
        }
    }

    private void changeBank(int draw) {
        if (draw == 0) {
            addQuestion(false);
        } else if (draw == 1) {
            setSomething();
        } else if (draw == 2) {
            int n = near(1, 6);
            same("length(" + n + ")", ladder.length(n), model.length(n));
        } else if (draw == 3) {
            setShare();
        } else if (draw == 4) {
            int b = near(1, 20);
            int a = random.nextInt(4) == 0 ? near(1, 20) : Math.min(20, Math.max(1, b / 2 + 1));
            same("sure(" + a + ", " + b + ")", ladder.sure(a, b), model.sure(a, b));
        } else if (draw == 5) {
            int step = near(0, 5);
            int v = near(1, 3);
            same("weight(" + step + ", " + v + ")", ladder.weight(step, v), model.weight(step, v));
        } else {
            lookAtQuestion();
        }
    }

    private void setShare() {
        int content = near(0, 2);
        int low = random.nextInt(3) > 0 ? near(0, 1) : near(0, 6);
        int high = near(0, 6);
        same("share(" + content + ", " + low + ", " + high + ")",
                ladder.share(content, low, high), model.share(content, low, high));
    }

    private void setSomething() {
        int question = anyQuestion();
        int what = near(0, 3);
        int v = what == 3 ? someLimit() : near(0, what == 0 ? 4 : 2);
        same("set(" + question + ", " + what + ", " + v + ")",
                ladder.set(question, what, v), model.set(question, what, v));
    }

    private void lookAtQuestion() {
        int question = anyQuestion();
        int what = random.nextInt(3) == 0 ? 4 : near(0, 10);
        same("about(" + question + ", " + what + ")",
                ladder.about(question, what), model.about(question, what));
    }

    private void callInside() {
        int draw = random.nextInt(40);
        if (draw < 14) {
            answerSome(draw < 8);
        } else if (draw < 17) {
            same("next()", ladder.next(), model.next());
        } else if (draw < 19) {
            same("back()", ladder.back(), model.back());
        } else if (draw < 24) {
            same("end()", ladder.end(), model.end());
        } else if (draw < 25) {
            same("quit()", ladder.quit(), model.quit());
        } else if (draw < 35) {
            lookAtSitting(draw);
        } else if (draw < 37) {
            lookAtQuestion();
        } else if (draw < 38) {
            same("begin()", ladder.begin(), model.begin());
        } else if (draw < 39) {
            same("fit()", ladder.fit(), model.fit());
        } else {
            changeBank(random.nextInt(8));
        }
    }

    private void answerSome(boolean asTold) {
        int next = asTold ? model.next() : NO;
        int question = next >= 0 ? next : anyQuestion();
        boolean right = random.nextBoolean();
        same("answer(" + question + ", " + right + ")",
                ladder.answer(question, right), model.answer(question, right));
    }

    private static final int NO = -1;

    private void lookAtSitting(int draw) {
        int question = anyQuestion();
        int other = anyQuestion();
        int number = near(0, 6);
        int what = near(0, 1);
        if (draw < 27) {
            same("may(" + question + ")", ladder.may(question), model.may(question));
        } else if (draw < 29) {
            same("gain(" + question + ", " + other + ")",
                    ladder.gain(question, other), model.gain(question, other));
        } else if (draw < 30) {
            same("done()", ladder.done(), model.done());
        } else if (draw < 31) {
            same("now(" + number + ")", ladder.now(number), model.now(number));
        } else if (draw < 32) {
            same("asked(" + number + ", " + what + ")",
                    ladder.asked(number, what), model.asked(number, what));
        } else if (draw < 34) {
            int n = near(0, 3);
            same("reach(" + n + ")", ladder.reach(n), model.reach(n));
        } else {
            int of = near(0, 8);
            same("count(" + of + ")", ladder.count(of), model.count(of));
        }
    }

    private void lookAtAll() {
        for (int what = -1; what < 10; what++) {
            same("count(" + what + ")", ladder.count(what), model.count(what));
        }
        for (int q = -1; q < 11; q++) {
            for (int what = -1; what < 12; what++) {
                same("about(" + q + ", " + what + ")", ladder.about(q, what), model.about(q, what));
            }
            same("may(" + q + ")", ladder.may(q), model.may(q));
            for (int other = -1; other < 11; other++) {
                same("gain(" + q + ", " + other + ")",
                        ladder.gain(q, other), model.gain(q, other));
            }
        }
        for (int i = -1; i < 8; i++) {
            same("now(" + i + ")", ladder.now(i), model.now(i));
            same("asked(" + i + ", 0)", ladder.asked(i, 0), model.asked(i, 0));
            same("asked(" + i + ", 1)", ladder.asked(i, 1), model.asked(i, 1));
            same("reach(" + i + ")", ladder.reach(i), model.reach(i));
        }
        same("done()", ladder.done(), model.done());
        same("next()", ladder.next(), model.next());
        same("fit()", ladder.fit(), model.fit());
    }
}
