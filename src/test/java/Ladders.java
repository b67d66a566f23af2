import java.util.List;
import java.util.function.Supplier;

/** Ladders as they stand at the edges that the document names. */
final class Ladders {
    static final int PLAIN = 0, TEXT = 1, FOE = 2, ANCHOR = 3, FRESH = 4;

    /** All without a sitting, for what is STATE there. */
    static final List<Supplier<QuestionLadder>> WITHOUT_SITTING = List.of(Ladders::empty,
            Ladders::three, Ladders::threeLeft, Ladders::ten, Ladders::notFit);

    /** All in a sitting, for what is STATE there. */
    static final List<Supplier<QuestionLadder>> IN_SITTING = List.of(Ladders::emptyBegun,
            Ladders::threeBegun, Ladders::threeUnderWay, Ladders::tenBegun, Ladders::wholeLength,
            Ladders::sureEarly, Ladders::atLimit);

    private Ladders() {
    }

    static QuestionLadder empty() {
        return new QuestionLadder();
    }

    static QuestionLadder emptyBegun() {
        QuestionLadder x = new QuestionLadder();
        x.begin();
        return x;
    }

    /** Plain questions of group 0 and content 0, which may be shown 99 times. */
    static QuestionLadder plain(int... chances) {
        QuestionLadder x = new QuestionLadder();
        for (int c : chances) {
            x.question(PLAIN, 0, 0, 99, c);
        }
        return x;
    }

    /** So many plain questions that tell nothing. */
    static QuestionLadder alike(int number) {
        QuestionLadder x = new QuestionLadder();
        for (int i = 0; i < number; i++) {
            x.question(PLAIN, 0, 0, 99, 222222);
        }
        return x;
    }

    /** Rules that are not those at first, one sitting over, each question shown once. */
    static QuestionLadder three() {
        QuestionLadder x = new QuestionLadder();
        x.question(PLAIN, 0, 0, 5, 411111);
        x.question(PLAIN, 1, 1, 3, 141114);
        x.question(TEXT, 2, 2, 2, 123432);
        x.length(3);
        x.share(1, 1, 2);
        x.sure(7, 8);
        x.weight(1, 3);
        x.weight(4, 2);
        x.begin();
        x.answer(0, true);
        x.answer(1, false);
        x.answer(2, true);
        x.end();
        return x;
    }

    static QuestionLadder threeBegun() {
        QuestionLadder x = three();
        x.begin();
        return x;
    }

    /** The second question was answered wrong; the sitting is not done. */
    static QuestionLadder threeUnderWay() {
        QuestionLadder x = threeBegun();
        x.answer(1, false);
        return x;
    }

    /** A sitting was begun and left. */
    static QuestionLadder threeLeft() {
        QuestionLadder x = threeUnderWay();
        x.quit();
        return x;
    }

    /** A full bank. */
    static QuestionLadder ten() {
        QuestionLadder x = new QuestionLadder();
        int[] chances = {444111, 111444, 411111, 123432, 141414, 222222, 342143, 114444, 444444, 111111};
        for (int i = 0; i < 10; i++) {
            x.question(i == 8 ? FRESH : PLAIN, i % 2, i % 3, 9 + i, chances[i]);
        }
        return x;
    }

    static QuestionLadder tenBegun() {
        QuestionLadder x = ten();
        x.begin();
        return x;
    }

    /** A full bank, and a sitting of the greatest length, with all of it asked. */
    static QuestionLadder wholeLength() {
        QuestionLadder x = ten();
        x.length(6);
        x.sure(20, 20);
        x.begin();
        for (int i = 0; i < 6; i++) {
            x.answer(9 - i, i % 2 == 0);
        }
        return x;
    }

    /** Done, since sure, where another question may be asked. */
    static QuestionLadder sureEarly() {
        QuestionLadder x = plain(411111, 141111);
        x.weight(0, 3);
        x.sure(12, 17);
        x.begin();
        x.answer(0, true);
        return x;
    }

    /** Spent, and what was asked has been shown as often as its limit by that. */
    static QuestionLadder atLimit() {
        QuestionLadder x = plain(411111, 141111, 222222);
        x.length(2);
        x.set(0, 3, 1);
        x.set(1, 0, ANCHOR);
        x.set(1, 3, 1);
        x.begin();
        x.answer(0, true);
        x.answer(1, false);
        return x;
    }

    /** More anchors than the length, so no set is fit. */
    static QuestionLadder notFit() {
        QuestionLadder x = plain(411111, 141111);
        x.set(0, 0, ANCHOR);
        x.set(1, 0, ANCHOR);
        x.length(1);
        return x;
    }
}
