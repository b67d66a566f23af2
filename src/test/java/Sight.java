import java.util.List;
import java.util.function.Function;

/**
 * What can be seen of a ladder. Rules, and how a sitting was gone through, show only in calls that
 * change the ladder, so there are several ways to look, each for a ladder of its own.
 */
final class Sight {
    static final List<Function<QuestionLadder, String>> WAYS = List.of(Sight::asItIs,
            Sight::goingBack, Sight::ending, Sight::quitting,
            x -> rulesWith(x, 0), x -> rulesWith(x, 1), x -> rulesWith(x, 2));

    private Sight() {
    }

    /** All that can be seen without changing it. */
    static String asItIs(QuestionLadder x) {
        StringBuilder seen = new StringBuilder();
        // first what no sitting is asked for, before another look could hide a change
        for (int what = 0; what < 9; what++) {
            see(seen, x.count(what));
        }
        for (int q = 0; q < 10; q++) {
            for (int what = 0; what < 11; what++) {
                see(seen, x.about(q, what));
            }
        }
        seen.append(sitting(x));
        for (int q = 0; q < 10; q++) {
            for (int other = 0; other < 10; other++) {
                see(seen, x.gain(q, other));
            }
        }
        for (int n = 0; n < 4; n++) {
            see(seen, x.reach(n));
        }
        see(seen, x.fit());
        return seen.toString();
    }

    private static String goingBack(QuestionLadder x) {
        StringBuilder seen = new StringBuilder();
        for (int i = 0; i < 7; i++) {
            see(seen, x.back());
            seen.append(sitting(x));
        }
        return seen.toString();
    }

    private static String ending(QuestionLadder x) {
        StringBuilder seen = new StringBuilder();
        see(seen, x.end());
        return seen.append(asItIs(x)).append(x.begin()).append(sitting(x)).toString();
    }

    private static String quitting(QuestionLadder x) {
        StringBuilder seen = new StringBuilder();
        see(seen, x.quit());
        return seen.append(asItIs(x)).append(x.begin()).append(sitting(x)).toString();
    }

    /** The rules, by what they were; HIGH of a content shows in how many sets of ten are fit. */
    private static String rulesWith(QuestionLadder x, int content) {
        StringBuilder seen = new StringBuilder();
        see(seen, x.quit());
        see(seen, x.sure(9, 10));
        see(seen, x.length(6));
        for (int step = 0; step < 6; step++) {
            see(seen, x.weight(step, 1));
        }
        for (int i = 0; i < 10; i++) {
            see(seen, x.question(0, 0, content, 99, 111111));
        }
        for (int q = 0; q < 10; q++) {
            x.set(q, 0, 0);
            x.set(q, 2, content);
            x.set(q, 3, 99);
        }
        for (int other = 0; other < 3; other++) {
            if (other != content) {
                see(seen, x.share(other, 0, 6));
            }
        }
        see(seen, x.fit());
        see(seen, x.share(content, 0, 6));
        return seen.toString();
    }

    private static String sitting(QuestionLadder x) {
        StringBuilder seen = new StringBuilder();
        for (int q = 0; q < 10; q++) {
            see(seen, x.about(q, 4));
            see(seen, x.may(q));
        }
        for (int i = 0; i < 6; i++) {
            see(seen, x.now(i));
            see(seen, x.asked(i, 0));
            see(seen, x.asked(i, 1));
        }
        see(seen, x.count(3));
        see(seen, x.next());
        see(seen, x.done());
        return seen.toString();
    }

    private static void see(StringBuilder seen, int answer) {
        seen.append(answer).append(' ');
    }
}
