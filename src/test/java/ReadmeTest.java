import java.io.IOException;
import java.nio.file.Files;
import java.nio.file.Path;
import java.util.ArrayList;
import java.util.List;
import java.util.regex.Matcher;
import java.util.regex.Pattern;

/**
 * The calls that README.md shows, in its order, with the answers that the document asks for; and
 * README.md shows these calls and answers, and no others.
 */
public final class ReadmeTest {
    private static final Path README = Path.of("README.md");
    private static final Pattern SHOWN = Pattern.compile("ladder\\.(.*\\));\\s+// (-?\\d+)\\b.*");
    private static final Path THIS = Path.of("src/test/java/ReadmeTest.java");
    private static final String MAKING = "QuestionLadder ladder = new QuestionLadder();";

    private static final Check check = new Check("ReadmeTest");

    /** Each call that README.md shows with its answer, as "call -> answer". */
    private final List<String> shownCalls = new ArrayList<>();
    private final List<String> otherCode = new ArrayList<>();
    private int next = 0;
    private int pupilsStep;
    private int asked;

    public static void main(String[] args) throws IOException {
        ReadmeTest test = new ReadmeTest();
        test.read(Files.readAllLines(README));
        QuestionLadder ladder = new QuestionLadder();
        test.aNewObject(ladder);
        test.theQuestions(ladder);
        test.theRules(ladder);
        test.aSitting(ladder);
        test.aSittingThatIsLeft(ladder);
        test.refusals(ladder);
        test.noOtherCode();
        for (int step = 0; step < 6; step++) {
            test.inShort(step);
        }
        check.finish();
    }

    private void read(List<String> lines) {
        boolean inCode = false;
        for (String line : lines) {
            if (line.startsWith("```")) {
                inCode = line.equals("```java");
            } else if (inCode) {
                readCode(line);
            }
        }
    }

    private void readCode(String line) {
        Matcher shown = SHOWN.matcher(line);
        if (shown.matches()) {
            shownCalls.add(told(shown.group(1), Integer.parseInt(shown.group(2))));
        } else {
            otherCode.add(line);
        }
    }

    private static String told(String call, int answer) {
        return call + " -> " + answer;
    }

    private void due(String call, int got, int want) {
        check.due(call, got, want);
        String shown = next < shownCalls.size() ? shownCalls.get(next) : "nothing";
        next++;
        check.due("README.md shows " + shown + " where " + told(call, want) + " is tested: equal",
                shown.equals(told(call, want)) ? 1 : 0, 1);
    }

    private void aNewObject(QuestionLadder x) {
        due("count(0)", x.count(0), 0);
        due("count(1)", x.count(1), 4);
        due("count(2)", x.count(2), 0);
    }

    private void theQuestions(QuestionLadder x) {
        due("question(0, 0, 0, 5, 111444)", x.question(0, 0, 0, 5, 111444), 0);
        due("question(0, 0, 1, 5, 114444)", x.question(0, 0, 1, 5, 114444), 1);
        due("question(1, 0, 1, 5, 144444)", x.question(1, 0, 1, 5, 144444), 2);
        due("question(1, 0, 1, 5, 111144)", x.question(1, 0, 1, 5, 111144), 3);
        due("question(2, 1, 2, 5, 111114)", x.question(2, 1, 2, 5, 111114), 4);
        due("question(2, 1, 2, 5, 411111)", x.question(2, 1, 2, 5, 411111), 5);
        due("question(4, 0, 2, 1, 222222)", x.question(4, 0, 2, 1, 222222), 6);
        due("set(4, 3, 2)", x.set(4, 3, 2), 5);
        due("about(4, 3)", x.about(4, 3), 2);
        due("about(4, 4)", x.about(4, 4), 0);
        due("about(4, 10)", x.about(4, 10), 4);
    }

    private void theRules(QuestionLadder x) {
        due("length(3)", x.length(3), 4);
        due("share(2, 0, 1)", x.share(2, 0, 1), 0);
        due("sure(3, 5)", x.sure(3, 5), 9);
        due("weight(3, 2)", x.weight(3, 2), 1);
        // Without the texts 4 sets of questions 0 and 1, with one of content 2 or none; with both
        // texts one more of the other five, or none: 4 * 4 + 6.
        due("fit()", x.fit(), 22);
    }

    private void aSitting(QuestionLadder x) {
        due("begin()", x.begin(), 7);
        due("next()", x.next(), 0);
        due("answer(0, true)", x.answer(0, true), 1);
        due("now(3)", x.now(3), 8);
        due("now(0)", x.now(0), 1);
        due("count(8)", x.count(8), 19);
        due("reach(0)", x.reach(0), 0);
        due("reach(1)", x.reach(1), 0);
        due("gain(3, 1)", x.gain(3, 1), 1);
        due("next()", x.next(), 3);
        due("answer(3, true)", x.answer(3, true), 2);
        due("back()", x.back(), 1);
        due("answer(3, false)", x.answer(3, false), 2);
        due("may(1)", x.may(1), 0);
        due("may(2)", x.may(2), 1);
        due("reach(0)", x.reach(0), 1);
        due("done()", x.done(), 0);
        due("next()", x.next(), 2);
        due("answer(2, true)", x.answer(2, true), 3);
        due("asked(1, 0)", x.asked(1, 0), 3);
        due("asked(1, 1)", x.asked(1, 1), 0);
        due("done()", x.done(), 1);
        due("next()", x.next(), -9);
        due("end()", x.end(), 3);
        due("about(0, 4)", x.about(0, 4), 1);
        due("count(4)", x.count(4), 1);
    }

    private void aSittingThatIsLeft(QuestionLadder x) {
        due("begin()", x.begin(), 7);
        due("answer(6, true)", x.answer(6, true), 1);
        due("about(6, 4)", x.about(6, 4), 1);
        due("quit()", x.quit(), 1);
        due("about(6, 4)", x.about(6, 4), 0);
        due("count(4)", x.count(4), 1);
    }

    private void refusals(QuestionLadder x) {
        due("question(0, 0, 0, 5, 111445)", x.question(0, 0, 0, 5, 111445), -1);
        due("share(0, 2, 1)", x.share(0, 2, 1), -1);
        due("sure(1, 2)", x.sure(1, 2), -1);
        due("may(7)", x.may(7), -1);
        due("may(6)", x.may(6), -2);
        due("gain(0, 7)", x.gain(0, 7), -2);
        due("gain(0, 6)", x.gain(0, 6), -3);
        due("begin()", x.begin(), 7);
        due("length(2)", x.length(2), -2);
        due("length(7)", x.length(7), -1);
        due("end()", x.end(), -2);
        due("answer(4, true)", x.answer(4, true), 1);
        due("answer(5, true)", x.answer(5, true), -2);
        due("quit()", x.quit(), 1);
        due("question(0, 0, 0, 5, 333333)", x.question(0, 0, 0, 5, 333333), 7);
        due("question(0, 0, 0, 5, 333333)", x.question(0, 0, 0, 5, 333333), 8);
        due("question(0, 0, 0, 5, 333333)", x.question(0, 0, 0, 5, 333333), 9);
        due("question(0, 0, 0, 5, 333333)", x.question(0, 0, 0, 5, 333333), -3);
    }

    private void noOtherCode() throws IOException {
        check.due("calls that README.md shows with their answers", shownCalls.size(), next);
        int making = otherCode.lastIndexOf(MAKING);
        check.due("README.md makes the ladder of the calls", making, otherCode.size() - 1);
        StringBuilder shown = new StringBuilder();
        for (int i = 0; i < making; i++) {
            shown.append("        ").append(otherCode.get(i)).append('\n');
        }
        boolean isHere = Files.readString(THIS).contains("{\n" + shown + "        return step;\n");
        check.due("what README.md shows in short stands in this test", isHere ? 1 : 0, 1);
    }

    /** Each question is one that the pupil is right at from a step on; the pupil is on the given one. */
    private void inShort(int pupil) {
        pupilsStep = pupil;
        asked = 0;
        check.due("in short, with a pupil on step " + pupil, inShort(), pupil);
        check.due("questions that the pupil was asked", asked, 5);
    }

    private boolean askThePupil(int question) {
        asked++;
        return pupilsStep > question;
    }

    private int inShort() {
        QuestionLadder ladder = new QuestionLadder();
        ladder.question(0, 0, 0, 9, 144444);    // kind, group, content, limit, chances at steps 0 .. 5
        ladder.question(0, 0, 0, 9, 114444);
        ladder.question(0, 0, 0, 9, 111444);
        ladder.question(0, 0, 0, 9, 111144);
        ladder.question(0, 0, 0, 9, 111114);
        ladder.length(5);
        ladder.begin();
        int question = ladder.next();
        while (question >= 0) {
            ladder.answer(question, askThePupil(question));
            question = ladder.next();
        }
        int step = ladder.end();
        return step;
    }
}
