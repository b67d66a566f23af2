import java.util.function.Function;
import java.util.function.Supplier;

/**
 * Holds calls to the edges of what they take. What is refused is called on one of two ladders that
 * were made alike, and then they must look alike in every way there is.
 */
final class Edges {
    /** A call with all its numbers. */
    interface Call {
        int on(QuestionLadder x);
    }

    /** A call with one number left open; its name has a # there. */
    interface CallOf {
        int on(QuestionLadder x, int v);
    }

    private final Check check;

    Edges(Check check) {
        this.check = check;
    }

    /** The call answers so, and nothing changes by it. */
    void leaves(String name, Supplier<QuestionLadder> made, int want, Call call) {
        for (Function<QuestionLadder, String> look : Sight.WAYS) {
            QuestionLadder x = made.get();
            check.due(name, call.on(x), want);
            boolean alike = look.apply(x).equals(look.apply(made.get()));
            check.due(name + " changes nothing", alike ? 1 : 0, 1);
        }
    }

    /** Each number from the first to the last is taken, and answered so. */
    void takes(String name, Supplier<QuestionLadder> made, int first, int last, int want,
            CallOf call) {
        for (int v = first; v <= last; v++) {
            check.due(named(name, v), call.on(made.get(), v), want);
        }
    }

    /** Each number from the first to the last is taken, and is seen behind it. */
    void puts(String name, Supplier<QuestionLadder> made, int first, int last, CallOf call,
            Call see) {
        for (int v = first; v <= last; v++) {
            QuestionLadder x = made.get();
            call.on(x, v);
            check.due("what is seen behind " + named(name, v), see.on(x), v);
        }
    }

    /** One below the first, one beyond the last, the least and the greatest int are refused so. */
    void refusesBeyond(String name, Supplier<QuestionLadder> made, int first, int last, int want,
            CallOf call) {
        for (int v : new int[] {first - 1, last + 1, Integer.MIN_VALUE, Integer.MAX_VALUE}) {
            leaves(named(name, v), made, want, x -> call.on(x, v));
        }
    }

    /** The first and the last number, good elsewhere, are refused so. */
    void refusesWithin(String name, Supplier<QuestionLadder> made, int first, int last, int want,
            CallOf call) {
        leaves(named(name, first), made, want, x -> call.on(x, first));
        leaves(named(name, last), made, want, x -> call.on(x, last));
    }

    private static String named(String name, int v) {
        return name.replace("#", Integer.toString(v));
    }
}
