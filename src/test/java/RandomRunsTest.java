/** Long runs of mixed calls, the same ones each time, on an advisor and on the model of the document. */
public final class RandomRunsTest {
    private static final int RUNS = 1000;
    private static final int CALLS = 512;
    private static final int[] ODD = {-1, -2, 2, 3, 4, 5, 9, 10, 11, 12, 13, 60, 61, 80, 81, 128, 1 << 30,
        Integer.MAX_VALUE, Integer.MIN_VALUE};

    private long seed;
    private final int mood;
    private final Both both = new Both();

    private RandomRunsTest(int run) {
        seed = 1000003L * run + 12345;
        mood = run % 5;
    }

    private int below(int bound) {
        seed = seed * 6364136223846793005L + 1442695040888963407L;
        return (int) ((seed >>> 33) % bound);
    }

    private int any(int bound) {
        return below(25) == 0 ? ODD[below(ODD.length)] : below(bound);
    }

    private String expression(int skill, int nesting) {
        StringBuilder text = new StringBuilder();
        int parts = 1 + below(3);
        for (int i = 0; i < parts; i++) {
            if (i > 0) text.append(below(2) == 0 ? '&' : '|');
            if (nesting < 5 && below(3) == 0) text.append('(').append(expression(skill, nesting + 1)).append(')');
            else text.append(below(skill));
        }
        return text.toString();
    }

    private String curriculum() {
        StringBuilder text = new StringBuilder();
        int skills = 1 + below(10);
        for (int i = 0; i < skills; i++) {
            int mark = below(3) == 0 ? 1 + below(99) : 45 + below(25);
            StringBuilder skill = new StringBuilder(i == 0 ? "" : ";").append(mark);
            if (i > 0 && below(4) > 0) skill.append('=').append(expression(i, 0));
            if (text.length() + skill.length() <= 80) text.append(skill);
        }
        if (below(4) == 0) {
            text.setCharAt(below(text.length()), "0123456789=;&|()x ".charAt(below(18)));
        }
        if (below(8) == 0) text.setLength(below(text.length() + 1));
        if (below(8) == 0) text.append("0123456789=;&|()".charAt(below(16)));
        return text.substring(0, Math.min(80, text.length()));
    }

    private void readOne() {
        both.type(curriculum());
        both.readCurriculum();
        int items = below(13);
        for (int i = 0; i < items; i++) addOne();
    }

    private void addOne() {
        both.addItem(any(both.skills()), any(5));
    }

    private void answerOne() {
        both.answer(any(Math.max(1, both.items())), mood == 0 || below(3) > 0 ? 1 : any(2));
    }

    private void daysPass() {
        both.nextDay(mood == 1 ? 55 + below(7) : below(6) == 0 ? any(62) : 1);
    }

    private void changeSome() {
        int kind = below(100);
        if (kind < 55) answerOne();
        else if (kind < 85) daysPass();
        else if (kind < 88) addOne();
        else if (kind < 93) both.undo();
        else if (kind < 96) both.save();
        else if (kind < 97) both.restore();
        else if (kind < 98) both.append('1', 1);
        else if (kind < 99 && mood > 1) readOne();
    }

    private void askSome() {
        int a = any(both.skills());
        int i = any(Math.max(1, both.items()));
        int w = any(11);
        int p = any(2);
        switch (below(18)) {
            case 0: both.item(i, w % 5); break;
            case 1: both.mastery(a, p); break;
            case 2: both.skill(a, w); break;
            case 3: both.chance(i, w % 4); break;
            case 4: both.advise(w % 5); break;
            case 5: both.due(w); break;
            case 6: both.path(w); break;
            case 7: both.whatIf(i, any(2), a, p); break;
            case 8: both.plan(1 + any(30), 1 + any(12), any(3)); break;
            case 9: both.account(a, w % 5); break;
            case 10: both.lasting(a); break;
            case 11: both.explain(i); break;
            case 12: both.explanation(w, p); break;
            case 13: both.replayed(a, p); break;
            case 14: both.logEntry(any(61), p); break;
            case 15: both.count(w); break;
            case 16: both.write(); break;
            default: both.written(any(30));
        }
    }

    /** An advisor is used for at most CALLS calls; a curriculum and a change may take some 60 of them. */
    private boolean passes() {
        if (below(10) > 0) readOne();
        else addOne();
        while (both.calls() < CALLS - 140 && !both.differs()) {
            changeSome();
            if (mood != 0 || below(8) == 0) askSome();
        }
        while (both.calls() < CALLS - 3 && !both.differs()) askSome();
        return !both.differs();
    }

    public static void main(String[] args) {
        int failed = 0;
        for (int run = 0; run < RUNS && failed < 3; run++) {
            if (!new RandomRunsTest(run).passes()) {
                System.out.println("that was run " + run);
                failed++;
            }
        }
        System.out.println(RUNS + " random runs, " + failed + " not as due");
        if (failed > 0) System.exit(1);
    }
}
