import java.util.ArrayList;
import java.util.List;

/** An advisor and the model of the document, which get the same calls; each answer is compared. */
final class Both {
    private final LearningAdvisor x = new LearningAdvisor();
    private final Model m = new Model();
    private final List<String> calls = new ArrayList<>();
    private boolean differs = false;

    /** Prints the run of calls at the first difference only, since what comes after it tells little. */
    private int same(int got, int want, String call, int... arguments) {
        StringBuilder text = new StringBuilder(call).append('(');
        for (int i = 0; i < arguments.length; i++) {
            text.append(i == 0 ? "" : ", ").append(arguments[i]);
        }
        calls.add(text.append(") = ").append(got).toString());
        if (got != want && !differs) {
            differs = true;
            System.out.println(String.join("\n", calls) + "   <- due is " + want);
        }
        return want;
    }

    int calls() {
        return calls.size();
    }

    boolean differs() {
        return differs;
    }

    /** How many skills there are, as the model knows it, so that nobody needs a call for it. */
    int skills() {
        return m.count(0);
    }

    int items() {
        return m.count(1);
    }

    int append(int code, int count) {
        return same(x.append(code, count), m.append(code, count), "append", code, count);
    }

    int readCurriculum() {
        return same(x.readCurriculum(), m.readCurriculum(), "readCurriculum");
    }

    int addItem(int skill, int difficulty) {
        return same(x.addItem(skill, difficulty), m.addItem(skill, difficulty), "addItem", skill, difficulty);
    }

    int item(int item, int what) {
        return same(x.item(item, what), m.item(item, what), "item", item, what);
    }

    int answer(int item, int right) {
        return same(x.answer(item, right), m.answer(item, right), "answer", item, right);
    }

    int nextDay(int days) {
        return same(x.nextDay(days), m.nextDay(days), "nextDay", days);
    }

    int mastery(int skill, int part) {
        return same(x.mastery(skill, part), m.mastery(skill, part), "mastery", skill, part);
    }

    int skill(int skill, int what) {
        return same(x.skill(skill, what), m.skill(skill, what), "skill", skill, what);
    }

    int chance(int item, int what) {
        return same(x.chance(item, what), m.chance(item, what), "chance", item, what);
    }

    int advise(int way) {
        return same(x.advise(way), m.advise(way), "advise", way);
    }

    int due(int index) {
        return same(x.due(index), m.due(index), "due", index);
    }

    int path(int index) {
        return same(x.path(index), m.path(index), "path", index);
    }

    int whatIf(int item, int right, int skill, int part) {
        return same(x.whatIf(item, right, skill, part), m.whatIf(item, right, skill, part),
                "whatIf", item, right, skill, part);
    }

    int plan(int days, int answers, int what) {
        return same(x.plan(days, answers, what), m.plan(days, answers, what), "plan", days, answers, what);
    }

    int account(int skill, int what) {
        return same(x.account(skill, what), m.account(skill, what), "account", skill, what);
    }

    int lasting(int skill) {
        return same(x.lasting(skill), m.lasting(skill), "lasting", skill);
    }

    int explain(int item) {
        return same(x.explain(item), m.explain(item), "explain", item);
    }

    int explanation(int level, int what) {
        return same(x.explanation(level, what), m.explanation(level, what), "explanation", level, what);
    }

    int replayed(int skill, int against) {
        return same(x.replayed(skill, against), m.replayed(skill, against), "replayed", skill, against);
    }

    int logEntry(int index, int what) {
        return same(x.logEntry(index, what), m.logEntry(index, what), "logEntry", index, what);
    }

    int count(int what) {
        return same(x.count(what), m.count(what), "count", what);
    }

    int write() {
        return same(x.write(), m.write(), "write");
    }

    int written(int index) {
        return same(x.written(index), m.written(index), "written", index);
    }

    int undo() {
        return same(x.undo(), m.undo(), "undo");
    }

    int save() {
        return same(x.save(), m.save(), "save");
    }

    int restore() {
        return same(x.restore(), m.restore(), "restore");
    }

    /** Equal characters that follow each other are appended by one call. */
    void type(String text) {
        int from = 0;
        while (from < text.length()) {
            int to = from + 1;
            while (to < text.length() && text.charAt(to) == text.charAt(from)) {
                to++;
            }
            append(text.charAt(from), to - from);
            from = to;
        }
    }
}
