import java.util.Random;
import java.util.function.IntBinaryOperator;
import java.util.function.IntUnaryOperator;

/**
 * What one call says of another, without a model: a path is what advise and answer do, a plan what advise, answer
 * and nextDay do, whatIf what an answer makes, lasting what days make, a replay what is, and so on. Each state is
 * made by a fixed run of calls, and made anew for each thing that is really done to it.
 */
public final class AgreementTest {
    private static final int RUNS = 60;
    /** With the calls that make a state, and two for each of these days, an advisor stays below 512 calls. */
    private static final int DAYS_TO_WAIT = 130;
    private static final String[] CURRICULA = {
        "60",
        "50;60=0",
        "60;60=0&0;55=(1|0)&1",
        "51;70=0;65=0|1;45=(1&2)|0",
        "60;60;60;60=(0|1)&2;60=3|((0&1))",
        "66;50=0;75=0&(1|0)&(0|1);34=2|1&0;90=(((3)))",
        "9;52=0;53=1;54=0|1;55=3&2;56=4;57=5|(0&1);58=6;59=(7|0)&1;60=0&8",
        "70;71;72;73;74;75=0&1&2&3&4;76=5;77=(6|5)&0",
    };
    private static final Check CHECK = new Check();

    private final int run;
    private final LearningAdvisor x;
    private final int skills;
    private final int items;
    private final int[] skillOf;
    private final int[] difficultyOf;
    private final boolean[] isOpen;

    private AgreementTest(int run) {
        this.run = run;
        x = make(curriculum());
        LearningAdvisor y = make(curriculum());
        skills = y.count(0);
        items = y.count(1);
        skillOf = new int[items];
        difficultyOf = new int[items];
        isOpen = new boolean[items];
        for (int item = 0; item < items; item++) {
            skillOf[item] = y.item(item, 0);
            difficultyOf[item] = y.item(item, 1);
            isOpen[item] = y.item(item, 4) != y.count(2);
        }
    }

    private String curriculum() {
        return CURRICULA[run % CURRICULA.length];
    }

    /** At most 200 calls, the same ones each time, so that two advisors of one run are in the same state. */
    private LearningAdvisor make(String curriculum) {
        LearningAdvisor made = new LearningAdvisor();
        int skills = Advisors.read(made, curriculum);
        Random random = new Random(run);
        int items = 1 + random.nextInt(12);
        for (int i = 0; i < items; i++) {
            made.addItem(random.nextInt(skills), random.nextInt(5));
        }
        int rightOfTen = 3 + random.nextInt(8);
        int daysOfTen = 1 + random.nextInt(5);
        for (int step = 0; step < 100; step++) {
            if (random.nextInt(10) < daysOfTen) {
                made.nextDay(random.nextInt(8) == 0 ? 1 + random.nextInt(30) : 1);
            } else if (random.nextInt(25) == 0) {
                made.undo();
            } else {
                made.answer(random.nextInt(items), random.nextInt(10) < rightOfTen ? 1 : 0);
            }
        }
        return made;
    }

    private void due(String call, long got, long want) {
        CHECK.due("run " + run + ": " + call, got, want);
    }

    private static int sum(int end, IntUnaryOperator part) {
        int sum = 0;
        for (int i = 0; i < end; i++) {
            sum += part.applyAsInt(i);
        }
        return sum;
    }

    private void countsAreSums() {
        due("count(3)", x.count(3), sum(items, i -> x.item(i, 2)));
        due("count(4)", x.count(4), sum(items, i -> x.item(i, 3)));
        due("count(5)", x.count(5), sum(skills, s -> x.skill(s, 5)));
        due("count(6)", x.count(6), sum(skills, s -> x.skill(s, 6)));
        due("count(10)", x.count(10), sum(skills, s -> x.skill(s, 0) + x.skill(s, 1)));
    }

    /** What was given, less what was cut off and what was lost, is what there is. */
    private void accountsAreBalanced() {
        for (int skill = 0; skill < skills; skill++) {
            int given = x.account(skill, 0) + x.account(skill, 1);
            int gone = x.account(skill, 2) + x.account(skill, 3);
            due("accounts of skill " + skill, given - gone, x.skill(skill, 0) + x.skill(skill, 1));
        }
    }

    private void isInLowestTerms(String name, IntUnaryOperator part, long numerator, long denominator) {
        long n = part.applyAsInt(0);
        long d = part.applyAsInt(1);
        due(name + " as a fraction", n * denominator, numerator * d);
        boolean isLowest = true;
        for (long divisor = 2; divisor <= n && divisor <= d; divisor++) {
            isLowest &= n % divisor != 0 || d % divisor != 0;
        }
        due(name + " is in lowest terms", isLowest ? 1 : 0, 1);
    }

    private void fractionsFollowFromTheEvidence() {
        for (int s = 0; s < skills; s++) {
            int skill = s;
            int n = x.skill(skill, 0) + 16;
            int d = n + x.skill(skill, 1) + 16;
            isInLowestTerms("mastery(" + skill + ")", part -> x.mastery(skill, part), n, d);
            due("skill(" + skill + ", 5)", x.skill(skill, 5), 100 * n >= x.skill(skill, 8) * d ? 1 : 0);
        }
        for (int i = 0; i < items; i++) {
            int item = i;
            long n = x.skill(skillOf[item], 0) + 16;
            long d = n + x.skill(skillOf[item], 1) + 16 + 16 * difficultyOf[item];
            isInLowestTerms("chance(" + item + ")", part -> x.chance(item, part), n, d);
            isInLowestTerms("information of " + item, part -> x.chance(item, 2 + part), n * (d - n), d * d);
        }
    }

    private void dueSkillsAreOrdered() {
        int day = x.count(2);
        int isDue = sum(skills, s -> x.skill(s, 3) != -1 && x.skill(s, 3) <= day ? 1 : 0);
        for (int index = 0; index < isDue; index++) {
            int skill = x.due(index);
            due("due(" + index + ") is due", skill >= 0 && x.skill(skill, 3) <= day ? 1 : 0, 1);
            int before = index == 0 ? -1 : x.due(index - 1);
            boolean isAfter = before == -1 || x.skill(before, 3) < x.skill(skill, 3)
                    || x.skill(before, 3) == x.skill(skill, 3) && before < skill;
            due("due(" + index + ") is after the one before", isAfter ? 1 : 0, 1);
        }
        due("due(" + isDue + ")", x.due(isDue), -1);
    }

    /** The easiest open item of a skill, of several the lowest one. */
    private int easiest(int skill) {
        int best = -1;
        for (int item = 0; item < items; item++) {
            boolean isCandidate = skillOf[item] == skill && isOpen[item];
            if (isCandidate && (best == -1 || difficultyOf[item] < difficultyOf[best])) {
                best = item;
            }
        }
        return best;
    }

    private void reviewIsOfTheFirstDueSkill() {
        int want = -1;
        for (int index = 0; want == -1 && index < 10 && x.due(index) != -1; index++) {
            want = easiest(x.due(index));
        }
        due("advise(0)", x.advise(0), want);
    }

    private void learningIsOfTheLeastMastery() {
        int best = -1;
        for (int skill = 0; skill < skills; skill++) {
            boolean counts = x.skill(skill, 5) == 0 && x.skill(skill, 6) == 1 && easiest(skill) != -1;
            if (counts && (best == -1 || isLess(skill, best, (s, part) -> x.mastery(s, part)))) {
                best = skill;
            }
        }
        due("advise(1)", x.advise(1), best == -1 ? -1 : easiest(best));
    }

    private static boolean isLess(int one, int other, IntBinaryOperator part) {
        return (long) part.applyAsInt(one, 0) * part.applyAsInt(other, 1)
                < (long) part.applyAsInt(other, 0) * part.applyAsInt(one, 1);
    }

    private void diagnosisIsOfTheGreatestInformation() {
        int best = -1;
        for (int item = 0; item < items; item++) {
            if (isOpen[item] && (best == -1 || isLess(best, item, (i, part) -> x.chance(i, 2 + part)))) {
                best = item;
            }
        }
        due("advise(2)", x.advise(2), best);
        int mixed = x.advise(0) != -1 ? x.advise(0) : x.advise(1) != -1 ? x.advise(1) : x.advise(2);
        due("advise(3)", x.advise(3), mixed);
    }

    private void aPathIsWhatIsAdvisedAndAnswered() {
        LearningAdvisor y = make(curriculum());
        for (int index = 0; index < 12; index++) {
            int advised = y.advise(1);
            due("path(" + index + ")", x.path(index), advised);
            y.answer(advised, 1);
        }
    }

    private void whatIfIsWhatAnAnswerMakes() {
        for (int item = 0; item < items; item++) {
            int right = item % 2;
            LearningAdvisor y = make(curriculum());
            boolean isAnswered = y.answer(item, right) >= 0;
            due("item " + item + " is open", isAnswered ? 1 : 0, x.whatIf(item, right, 0, 0) == -4 ? 0 : 1);
            for (int skill = 0; isAnswered && skill < skills; skill++) {
                String call = "whatIf(" + item + ", " + right + ", " + skill;
                due(call + ", 0)", x.whatIf(item, right, skill, 0), y.mastery(skill, 0));
                due(call + ", 1)", x.whatIf(item, right, skill, 1), y.mastery(skill, 1));
            }
        }
    }

    private void aPlanIsWhatIsAdvisedAndAnswered() {
        int days = 1 + run % 7;
        int answers = 1 + run % 12;
        LearningAdvisor y = make(curriculum());
        int given = 0;
        for (int day = 0; day < days; day++) {
            if (day > 0) {
                y.nextDay(1);
            }
            for (int left = answers; left > 0 && y.answer(y.advise(3), 1) >= 0; left--) {
                given++;
            }
        }
        String call = "plan(" + days + ", " + answers;
        due(call + ", 0)", x.plan(days, answers, 0), given);
        due(call + ", 1)", x.plan(days, answers, 1), y.count(10));
        due(call + ", 2)", x.plan(days, answers, 2), y.count(5));
    }

    private void lastingIsWhatDaysMake() {
        for (int skill = 0; skill < skills; skill++) {
            LearningAdvisor y = make(curriculum());
            int days = y.skill(skill, 5) == 1 ? 0 : -1;
            while (days >= 0 && days < DAYS_TO_WAIT && y.nextDay(1) > 0 && y.skill(skill, 5) == 1) {
                days++;
            }
            due("lasting(" + skill + "), counted to " + DAYS_TO_WAIT, Math.min(DAYS_TO_WAIT, x.lasting(skill)), days);
        }
    }

    private void theReplayGivesWhatIs() {
        for (int skill = 0; skill < skills; skill++) {
            due("replayed(" + skill + ", 0)", x.replayed(skill, 0), x.skill(skill, 0));
            due("replayed(" + skill + ", 1)", x.replayed(skill, 1), x.skill(skill, 1));
        }
    }

    /** The entries of the log, made by hand from where the log was empty, lead to the same state. */
    private void theLogTellsWhatWasDone() {
        LearningAdvisor y = makeWithEmptyLog();
        Random random = new Random(-run);
        for (int step = 0; step < 20; step++) {
            y.answer(random.nextInt(items), random.nextInt(2));
            y.nextDay(1 + step % 3 / 2);
        }
        LearningAdvisor z = makeWithEmptyLog();
        for (int index = 0; index < y.count(7); index++) {
            int item = y.logEntry(index, 0);
            int done = item == -1 ? z.nextDay(1) : z.answer(item, y.logEntry(index, 1));
            due("entry " + index + " can be made by hand", done >= 0 ? 1 : 0, 1);
        }
        due("entries", z.count(7), y.count(7));
        due("day by the log", z.count(2), y.count(2));
        for (int skill = 0; skill < skills; skill++) {
            for (int what = 0; what < 5; what++) {
                due("skill(" + skill + ", " + what + ") by the log", z.skill(skill, what), y.skill(skill, what));
            }
        }
    }

    private LearningAdvisor makeWithEmptyLog() {
        LearningAdvisor made = make(curriculum());
        made.save();
        made.restore();
        due("entries after restore", made.count(7), 0);
        return made;
    }

    private void reasonsFollowFromWhatIs() {
        for (int item = 0; item < items; item++) {
            LearningAdvisor y = make(curriculum());
            int skill = skillOf[item];
            int levels = y.explain(item);
            int code = y.explanation(0, 0);
            int want = !isOpen[item] ? 1 : y.skill(skill, 5) == 1 ? 2 : y.skill(skill, 6) == 0 ? 3
                    : y.advise(1) == item ? 5 : 4;
            due("code for item " + item, code, want);
            due("number for item " + item, y.explanation(0, 1), want == 1 ? y.count(2) : want < 4 ? skill : y.advise(1));
            due("more than one level for item " + item, levels > 1 ? 1 : 0, want == 3 ? 1 : 0);
            causesFollowEachOther(y, skill, levels);
        }
    }

    private void causesFollowEachOther(LearningAdvisor y, int first, int levels) {
        int caused = first;
        for (int level = 1; level < levels; level++) {
            int blocking = y.explanation(level, 1);
            due("code of a cause", y.explanation(level, 0), 6);
            due("skill " + blocking + " is required by " + caused, y.skill(caused, 7) >> blocking & 1, 1);
            due("skill " + blocking + " is mastered", y.skill(blocking, 5), 0);
            due("skill " + blocking + " is ready", y.skill(blocking, 6), level == levels - 1 ? 1 : 0);
            caused = blocking;
        }
    }

    /** The written text is read as the same curriculum: all is ready, blocked and advised as before. */
    private void theWrittenTextSaysTheSame() {
        int length = x.write();
        String written = Advisors.written(x);
        due("write()", length, written.length());
        LearningAdvisor y = make(written);
        due("write() again", y.write(), length);
        CHECK.due("run " + run + ": written again", Advisors.written(y), written);
        for (int item = 0; item < items; item++) {
            CHECK.due("run " + run + ": explained by the written text", Advisors.explained(make(written), item),
                    Advisors.explained(make(curriculum()), item));
        }
        LearningAdvisor one = make(written);
        LearningAdvisor other = make(curriculum());
        for (int skill = 0; skill < skills; skill++) {
            for (int what = 0; what < 9; what++) {
                due("skill(" + skill + ", " + what + ") by the written text", one.skill(skill, what),
                        other.skill(skill, what));
            }
        }
    }

    private void undoGoesBackByOneCall() {
        LearningAdvisor y = make(curriculum());
        int open = y.advise(2);
        int left = Math.min(5, y.count(8));
        int evidence = y.count(10);
        if (open != -1) {
            y.answer(open, 1);
            due("undo() of an answer", y.undo(), left);
            due("evidence after undo", y.count(10), evidence);
            due("the item is open again", y.advise(2), open);
        }
        y.nextDay(60);
        due("undo() of days", y.undo(), left);
        due("evidence after undo", y.count(10), evidence);
        due("day after undo", y.count(2), x.count(2));
        due("entries after undo", y.count(7), 0);
    }

    private static void checkAll(int run) {
        new AgreementTest(run).countsAreSums();
        new AgreementTest(run).accountsAreBalanced();
        new AgreementTest(run).fractionsFollowFromTheEvidence();
        new AgreementTest(run).dueSkillsAreOrdered();
        new AgreementTest(run).reviewIsOfTheFirstDueSkill();
        new AgreementTest(run).learningIsOfTheLeastMastery();
        new AgreementTest(run).diagnosisIsOfTheGreatestInformation();
        new AgreementTest(run).aPathIsWhatIsAdvisedAndAnswered();
        new AgreementTest(run).whatIfIsWhatAnAnswerMakes();
        new AgreementTest(run).aPlanIsWhatIsAdvisedAndAnswered();
        new AgreementTest(run).lastingIsWhatDaysMake();
        new AgreementTest(run).theReplayGivesWhatIs();
        new AgreementTest(run).theLogTellsWhatWasDone();
        new AgreementTest(run).reasonsFollowFromWhatIs();
        new AgreementTest(run).theWrittenTextSaysTheSame();
        new AgreementTest(run).undoGoesBackByOneCall();
    }

    public static void main(String[] args) {
        for (int run = 0; run < RUNS; run++) {
            checkAll(run);
        }
        CHECK.end();
    }
}
