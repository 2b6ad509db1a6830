import java.util.ArrayList;
import java.util.List;
import java.util.function.Consumer;
import java.util.function.ToIntFunction;

/**
 * Two advisors that are brought into the same state, of which one gets a further call: all that can be asked
 * of them must be the same, at once and after what makes hidden states seen (undo, restore, write, reading).
 */
final class Twins {
    /** With this many questions to one pair, and the state before, an advisor stays below 512 calls. */
    private static final int QUESTIONS_OF_A_PAIR = 100;

    private static final class Question {
        final String name;
        final ToIntFunction<LearningAdvisor> ask;

        Question(String name, ToIntFunction<LearningAdvisor> ask) {
            this.name = name;
            this.ask = ask;
        }
    }

    private static final List<Question> QUESTIONS = questions();
    private static final List<Consumer<LearningAdvisor>> REVEALING = List.of(
            x -> { },
            LearningAdvisor::undo,
            x -> undoAll(x),
            LearningAdvisor::restore,
            LearningAdvisor::write,
            LearningAdvisor::readCurriculum,
            x -> x.nextDay(60));

    private final Check check;
    private final Consumer<LearningAdvisor> state;

    Twins(Check check, Consumer<LearningAdvisor> state) {
        this.check = check;
        this.state = state;
    }

    /** The call answers what is due, and nothing changes. */
    void nothingChanges(String name, ToIntFunction<LearningAdvisor> call, int want) {
        LearningAdvisor x = new LearningAdvisor();
        state.accept(x);
        check.due(name, call.applyAsInt(x), want);
        staysAs(name, call::applyAsInt, unchanged -> { });
    }

    /** One call leaves the advisor as the other call does. */
    void staysAs(String name, Consumer<LearningAdvisor> call, Consumer<LearningAdvisor> other) {
        areAlike(check, name, state.andThen(call), state.andThen(other));
    }

    /** A new advisor is the same after the calls of one way as after those of the other way. */
    static void areAlike(Check check, String name, Consumer<LearningAdvisor> way, Consumer<LearningAdvisor> other) {
        for (Consumer<LearningAdvisor> revealing : REVEALING) {
            for (int first = 0; first < QUESTIONS.size(); first += QUESTIONS_OF_A_PAIR) {
                LearningAdvisor one = new LearningAdvisor();
                LearningAdvisor two = new LearningAdvisor();
                way.andThen(revealing).accept(one);
                other.andThen(revealing).accept(two);
                compare(check, name, one, two, first);
            }
        }
    }

    private static void compare(Check check, String name, LearningAdvisor one, LearningAdvisor two, int first) {
        int end = Math.min(first + QUESTIONS_OF_A_PAIR, QUESTIONS.size());
        for (Question question : QUESTIONS.subList(first, end)) {
            check.due(question.name + " after " + name, question.ask.applyAsInt(one), question.ask.applyAsInt(two));
        }
    }

    private static void undoAll(LearningAdvisor x) {
        for (int i = 0; i < 7; i++) {
            x.undo();
        }
    }

    private static List<Question> questions() {
        List<Question> all = new ArrayList<>();
        for (int what = 0; what < 11; what++) {
            int w = what;
            all.add(new Question("count(" + w + ")", x -> x.count(w)));
        }
        for (int skill = 0; skill < 10; skill++) {
            askOfSkill(all, skill);
        }
        for (int item = 0; item < 12; item++) {
            askOfItem(all, item);
        }
        for (int index = 0; index < 61; index++) {
            int i = index;
            all.add(new Question("logEntry(" + i + ", 0)", x -> x.logEntry(i, 0)));
            all.add(new Question("logEntry(" + i + ", 1)", x -> x.logEntry(i, 1)));
        }
        for (int index = 0; index < 81; index++) {
            int i = index;
            all.add(new Question("written(" + i + ")", x -> x.written(i)));
        }
        for (int what = 0; what < 4; what++) {
            int w = what;
            all.add(new Question("advise(" + w + ")", x -> x.advise(w)));
            all.add(new Question("plan(3, 2, " + w + ")", x -> x.plan(3, 2, w)));
        }
        return all;
    }

    private static void askOfSkill(List<Question> all, int s) {
        for (int what = 0; what < 9; what++) {
            int w = what;
            all.add(new Question("skill(" + s + ", " + w + ")", x -> x.skill(s, w)));
        }
        for (int what = 0; what < 4; what++) {
            int w = what;
            all.add(new Question("account(" + s + ", " + w + ")", x -> x.account(s, w)));
        }
        for (int part = 0; part < 2; part++) {
            int p = part;
            all.add(new Question("mastery(" + s + ", " + p + ")", x -> x.mastery(s, p)));
            all.add(new Question("replayed(" + s + ", " + p + ")", x -> x.replayed(s, p)));
            all.add(new Question("explanation(" + s + ", " + p + ")", x -> x.explanation(s, p)));
        }
        all.add(new Question("lasting(" + s + ")", x -> x.lasting(s)));
        all.add(new Question("due(" + s + ")", x -> x.due(s)));
    }

    private static void askOfItem(List<Question> all, int i) {
        for (int what = 0; what < 5; what++) {
            int w = what;
            all.add(new Question("item(" + i + ", " + w + ")", x -> x.item(i, w)));
        }
        for (int what = 0; what < 4; what++) {
            int w = what;
            all.add(new Question("chance(" + i + ", " + w + ")", x -> x.chance(i, w)));
        }
        all.add(new Question("path(" + i + ")", x -> x.path(i)));
        all.add(new Question("whatIf(" + i + ", 1, 0, 0)", x -> x.whatIf(i, 1, 0, 0)));
    }
}
