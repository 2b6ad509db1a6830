import java.util.ArrayList;
import java.util.List;

/** Long runs of mixed calls, the same ones each time, on an advisor and on the model of the document. */
public final class RandomRunsTest {
    private static final int RUNS = 1500;
    private static final int CALLS = 512;
    private static final int[] ODD = {-1, -2, 2, 3, 4, 5, 9, 10, 11, 12, 13, 60, 61, 80, 81, 128, 1 << 30,
        Integer.MAX_VALUE, Integer.MIN_VALUE};

    private long seed;
    private final int mood;
    private final LearningAdvisor x = new LearningAdvisor();
    private final Model m = new Model();
    private final List<String> calls = new ArrayList<>();
    private boolean differs = false;

    private RandomRunsTest(int run) {
        seed = 1000003L * run + 12345;
        mood = run % 5;
    }

    private int below(int bound) {
        seed = seed * 6364136223846793005L + 1442695040888963407L;
        return (int) ((seed >>> 33) % bound);
    }

    private int any(int bound) {
        return below(25) == 0 ? ODD[below(ODD.length)] : below(bound);
    }

    private void same(String call, int got, int want) {
        calls.add(call + " = " + got);
        if (got != want && !differs) {
            differs = true;
            System.out.println(String.join("\n", calls) + "   <- due is " + want);
        }
    }

    private void type(String text) {
        for (int i = 0; i < text.length() && calls.size() < CALLS; i++) {
            int code = text.charAt(i);
            int count = 1;
            while (i + 1 < text.length() && text.charAt(i + 1) == code) {
                count++;
                i++;
            }
            same("append(" + code + ", " + count + ")", x.append(code, count), m.append(code, count));
        }
    }

    private String expression(int skill, int nesting) {
        StringBuilder text = new StringBuilder();
        int parts = 1 + below(3);
        for (int i = 0; i < parts; i++) {
            if (i > 0) text.append(below(2) == 0 ? '&' : '|');
            if (nesting < 5 && below(3) == 0) text.append('(').append(expression(skill, nesting + 1)).append(')');
            else text.append(below(skill));
        }
        return text.toString();
    }

    private String curriculum() {
        StringBuilder text = new StringBuilder();
        int skills = 1 + below(10);
        for (int i = 0; i < skills; i++) {
            int mark = below(3) == 0 ? 1 + below(99) : 45 + below(25);
            StringBuilder skill = new StringBuilder(i == 0 ? "" : ";").append(mark);
            if (i > 0 && below(4) > 0) skill.append('=').append(expression(i, 0));
            if (text.length() + skill.length() <= 80) text.append(skill);
        }
        if (below(4) == 0) {
            text.setCharAt(below(text.length()), "0123456789=;&|()x ".charAt(below(18)));
        }
        if (below(8) == 0) text.setLength(below(text.length() + 1));
        if (below(8) == 0) text.append("0123456789=;&|()".charAt(below(16)));
        return text.substring(0, Math.min(80, text.length()));
    }

    private void readOne() {
        type(curriculum());
        same("readCurriculum()", x.readCurriculum(), m.readCurriculum());
        int items = below(13);
        for (int i = 0; i < items; i++) addOne();
    }

    private void addOne() {
        int skill = any(Math.max(1, m.count(0)));
        int difficulty = any(5);
        same("addItem(" + skill + ", " + difficulty + ")", x.addItem(skill, difficulty), m.addItem(skill, difficulty));
    }

    private void answerOne() {
        int item = any(Math.max(1, m.count(1)));
        int right = mood == 0 || below(3) > 0 ? 1 : any(2);
        same("answer(" + item + ", " + right + ")", x.answer(item, right), m.answer(item, right));
    }

    private void daysPass() {
        int days = mood == 1 ? 55 + below(7) : below(6) == 0 ? any(62) : 1;
        same("nextDay(" + days + ")", x.nextDay(days), m.nextDay(days));
    }

    private void changeSome() {
        int kind = below(100);
        if (kind < 55) answerOne();
        else if (kind < 85) daysPass();
        else if (kind < 88) addOne();
        else if (kind < 93) same("undo()", x.undo(), m.undo());
        else if (kind < 96) same("save()", x.save(), m.save());
        else if (kind < 97) same("restore()", x.restore(), m.restore());
        else if (kind < 98) same("append(49, 1)", x.append(49, 1), m.append(49, 1));
        else if (kind < 99 && mood > 1) readOne();
    }

    private void askSome() {
        int a = any(Math.max(1, m.count(0)));
        int i = any(Math.max(1, m.count(1)));
        int w = any(11);
        int p = any(2);
        switch (below(18)) {
            case 0: same("item(" + i + ", " + w % 5 + ")", x.item(i, w % 5), m.item(i, w % 5)); break;
            case 1: same("mastery(" + a + ", " + p + ")", x.mastery(a, p), m.mastery(a, p)); break;
            case 2: same("skill(" + a + ", " + w + ")", x.skill(a, w), m.skill(a, w)); break;
            case 3: same("chance(" + i + ", " + w % 4 + ")", x.chance(i, w % 4), m.chance(i, w % 4)); break;
            case 4: same("advise(" + w % 5 + ")", x.advise(w % 5), m.advise(w % 5)); break;
            case 5: same("due(" + w + ")", x.due(w), m.due(w)); break;
            case 6: same("path(" + w + ")", x.path(w), m.path(w)); break;
            case 7: whatIf(i, any(2), a, p); break;
            case 8: plan(1 + any(30), 1 + any(12), any(3)); break;
            case 9: same("account(" + a + ", " + w % 5 + ")", x.account(a, w % 5), m.account(a, w % 5)); break;
            case 10: same("lasting(" + a + ")", x.lasting(a), m.lasting(a)); break;
            case 11: same("explain(" + i + ")", x.explain(i), m.explain(i)); break;
            case 12: same("explanation(" + w + ", " + p + ")", x.explanation(w, p), m.explanation(w, p)); break;
            case 13: same("replayed(" + a + ", " + p + ")", x.replayed(a, p), m.replayed(a, p)); break;
            case 14: w = any(61);
                same("logEntry(" + w + ", " + p + ")", x.logEntry(w, p), m.logEntry(w, p)); break;
            case 15: same("count(" + w + ")", x.count(w), m.count(w)); break;
            case 16: same("write()", x.write(), m.write()); break;
            default: w = any(30);
                same("written(" + w + ")", x.written(w), m.written(w));
        }
    }

    private void whatIf(int item, int right, int skill, int part) {
        same("whatIf(" + item + ", " + right + ", " + skill + ", " + part + ")",
                x.whatIf(item, right, skill, part), m.whatIf(item, right, skill, part));
    }

    private void plan(int days, int answers, int what) {
        same("plan(" + days + ", " + answers + ", " + what + ")",
                x.plan(days, answers, what), m.plan(days, answers, what));
    }

    private boolean passes() {
        if (below(10) > 0) readOne();
        else addOne();
        while (calls.size() < CALLS - 120 && !differs) {
            changeSome();
            if (mood != 0 || below(8) == 0) askSome();
        }
        while (calls.size() < CALLS && !differs) askSome();
        return !differs;
    }

    public static void main(String[] args) {
        int failed = 0;
        for (int run = 0; run < RUNS && failed < 3; run++) {
            if (!new RandomRunsTest(run).passes()) {
                System.out.println("that was run " + run);
                failed++;
            }
        }
        System.out.println(RUNS + " random runs, " + failed + " not as due");
        if (failed > 0) System.exit(1);
    }
}
