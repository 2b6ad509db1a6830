/**
 * An advisor for learners: mastery of skills as exact fractions of evidence that decays by days,
 * prerequisites by and and or, reviews by due days, items that are advised for learning, review or
 * diagnosis, reasons why items are not advised, undo, and a log whose replay gives the same mastery.
 *
 * All rows are made in the constructor and used again; only a curriculum that is read makes new
 * objects, a few for each of its skills and digits.
 */
public final class LearningAdvisor {
    public static final int NONE = -1;
    public static final int BAD_ARGUMENT = -2;
    public static final int FULL = -3;
    public static final int ALREADY = -4;

    private static final int MAX_SKILLS = 10;
    private static final int FIRST_PASS_MARK = 70;
    private static final int MAX_ITEMS = 12;
    private static final int MAX_DIFFICULTY = 4;
    private static final int DIFFICULTY_WEIGHT = 16;

    private static final int MAX_EVIDENCE = 480;
    private static final int PRIOR_EVIDENCE = 16;
    private static final int ANSWER_EVIDENCE = 16;
    private static final int REQUIRED_EVIDENCE = 4;
    private static final int DECAY_DIVISOR = 8;
    private static final int MAX_INTERVAL = 64;

    private static final int LAST_DAY = 9999;
    private static final int MAX_DAYS = 60;
    private static final int MAX_PLAN_DAYS = 30;
    private static final int MAX_LASTING_DAYS = 200;
    private static final int MAX_LOG = 60;
    private static final int MAX_UNDO = 6;

    private static final int MAX_TEXT = 80;
    private static final int MAX_CODE = 127;
    private static final int SYNTAX_ERROR = -100;
    private static final int MAX_NESTING = 5;
    /** Each nesting can hold an or and an and, and so can the outermost level; below is a skill. */
    private static final int MAX_DEPTH = 2 * (MAX_NESTING + 1);

    private static final int WAY_REVIEW = 0;
    private static final int WAY_LEARNING = 1;
    private static final int WAY_DIAGNOSIS = 2;
    private static final int WAY_MIXED = 3;

    private static final int CODE_ANSWERED = 1;
    private static final int CODE_MASTERED = 2;
    private static final int CODE_NOT_READY = 3;
    private static final int CODE_OTHER_ITEM = 4;
    private static final int CODE_ADVISED = 5;
    private static final int CODE_BLOCKED = 6;

    private final TextRow text = new TextRow();
    private final TextRow writtenText = new TextRow();
    private final CurriculumReader reader = new CurriculumReader(text);
    private final Explanation latestExplanation = new Explanation();
    private final Course course = new Course();
    private final Progress progress = new Progress(course);
    /** What would be is tried here, so that nothing changes. */
    private final Progress trial = new Progress(course);
    private final Log log = new Log(course);
    private final History history = new History(course);
    private final Course savedCourse = new Course();
    private final Progress savedProgress = new Progress(savedCourse);
    private boolean hasSnapshot = false;

    public LearningAdvisor() {
    }

    public int append(int code, int count) {
        if (!isWithin(code, 0, MAX_CODE) || !isWithin(count, 1, MAX_TEXT)) {
            return BAD_ARGUMENT;
        }
        if (text.length() + count > MAX_TEXT) {
            return FULL;
        }
        for (int i = 0; i < count; i++) {
            text.add(code);
        }
        return text.length();
    }

    public int readCurriculum() {
        Curriculum curriculum = reader.read();
        text.clear();
        if (curriculum == null) {
            return SYNTAX_ERROR - reader.offset();
        }
        course.begin(curriculum);
        progress.clear();
        startAgain();
        return curriculum.size();
    }

    public int addItem(int skill, int difficulty) {
        if (!course.hasSkill(skill)) {
            return NONE;
        }
        if (!isWithin(difficulty, 0, MAX_DIFFICULTY)) {
            return BAD_ARGUMENT;
        }
        return course.put(skill, difficulty);
    }

    public int item(int item, int what) {
        if (!course.hasItem(item)) {
            return NONE;
        }
        switch (what) {
            case 0: return course.skillOf(item);
            case 1: return course.difficultyOf(item);
            case 2: return progress.rightAnswers(item);
            case 3: return progress.wrongAnswers(item);
            case 4: return progress.answerDay(item);
            default: return BAD_ARGUMENT;
        }
    }

    public int answer(int item, int right) {
        if (!course.hasItem(item)) {
            return NONE;
        }
        if (!isWithin(right, 0, 1)) {
            return BAD_ARGUMENT;
        }
        if (!progress.isOpen(item)) {
            return ALREADY;
        }
        history.push(progress);
        progress.takeAnswer(item, right == 1);
        log.addAnswer(item, right);
        return progress.isMastered(course.skillOf(item)) ? 1 : 0;
    }

    public int nextDay(int days) {
        if (!isWithin(days, 1, MAX_DAYS)) {
            return BAD_ARGUMENT;
        }
        if (progress.day() + days > LAST_DAY) {
            return FULL;
        }
        history.push(progress);
        for (int i = 0; i < days; i++) {
            progress.passDay();
            log.addDay();
        }
        return progress.day();
    }

    public int mastery(int skill, int part) {
        if (!course.hasSkill(skill)) {
            return NONE;
        }
        if (!isWithin(part, 0, 1)) {
            return BAD_ARGUMENT;
        }
        return masteryIn(progress, skill, part);
    }

    public int skill(int skill, int what) {
        if (!course.hasSkill(skill)) {
            return NONE;
        }
        SkillState state = progress.stateOf(skill);
        switch (what) {
            case 0: return state.evidenceFor();
            case 1: return state.evidenceAgainst();
            case 2: return state.interval();
            case 3: return state.dueDay();
            case 4: return state.practiceDay();
            case 5: return progress.isMastered(skill) ? 1 : 0;
            case 6: return progress.isReady(skill) ? 1 : 0;
            case 7: return course.curriculum().requiredSkills(skill);
            case 8: return course.curriculum().passMark(skill);
            default: return BAD_ARGUMENT;
        }
    }

    public int chance(int item, int what) {
        if (!course.hasItem(item)) {
            return NONE;
        }
        int rightly = progress.chanceNumerator(item);
        int all = progress.chanceDenominator(item);
        switch (what) {
            case 0: return inLowestTerms(rightly, all, 0);
            case 1: return inLowestTerms(rightly, all, 1);
            case 2: return inLowestTerms(rightly * (all - rightly), all * all, 0);
            case 3: return inLowestTerms(rightly * (all - rightly), all * all, 1);
            default: return BAD_ARGUMENT;
        }
    }

    public int advise(int way) {
        if (!isWithin(way, WAY_REVIEW, WAY_MIXED)) {
            return BAD_ARGUMENT;
        }
        return Advice.byWay(way, course, progress);
    }

    public int due(int index) {
        for (int skill = 0; skill < course.skills(); skill++) {
            if (progress.isDue(skill) && progress.dueBefore(skill) == index) {
                return skill;
            }
        }
        return NONE;
    }

    public int path(int index) {
        if (!isWithin(index, 0, MAX_ITEMS - 1)) {
            return BAD_ARGUMENT;
        }
        trial.copyFrom(progress);
        for (int i = 0; i < index; i++) {
            trial.takeAnswer(Advice.forLearning(course, trial), true);
        }
        return Advice.forLearning(course, trial);
    }

    public int whatIf(int item, int right, int skill, int part) {
        if (!course.hasItem(item) || !course.hasSkill(skill)) {
            return NONE;
        }
        if (!isWithin(right, 0, 1) || !isWithin(part, 0, 1)) {
            return BAD_ARGUMENT;
        }
        if (!progress.isOpen(item)) {
            return ALREADY;
        }
        trial.copyFrom(progress);
        trial.takeAnswer(item, right == 1);
        return masteryIn(trial, skill, part);
    }

    public int plan(int days, int answers, int what) {
        if (!isWithin(days, 1, MAX_PLAN_DAYS) || !isWithin(answers, 1, MAX_ITEMS) || !isWithin(what, 0, 2)) {
            return BAD_ARGUMENT;
        }
        trial.copyFrom(progress);
        int given = 0;
        for (int i = 0; i < days; i++) {
            if (i > 0) {
                trial.passDay();
            }
            given += answerMixed(trial, answers);
        }
        switch (what) {
            case 0: return given;
            case 1: return trial.sumOfEvidence();
            default: return Integer.bitCount(trial.masteredSkills());
        }
    }

    public int account(int skill, int what) {
        if (!course.hasSkill(skill)) {
            return NONE;
        }
        SkillState state = progress.stateOf(skill);
        switch (what) {
            case 0: return state.givenFor();
            case 1: return state.givenAgainst();
            case 2: return state.cutOff();
            case 3: return state.decayed();
            default: return BAD_ARGUMENT;
        }
    }

    public int lasting(int skill) {
        if (!course.hasSkill(skill) || !progress.isMastered(skill)) {
            return NONE;
        }
        trial.copyFrom(progress);
        SkillState state = trial.stateOf(skill);
        int passMark = course.curriculum().passMark(skill);
        for (int days = 0; days < MAX_LASTING_DAYS; days++) {
            state.passTo(progress.day() + days + 1);
            if (!state.reaches(passMark)) {
                return days;
            }
        }
        return MAX_LASTING_DAYS;
    }

    public int explain(int item) {
        if (!course.hasItem(item)) {
            return NONE;
        }
        int skill = course.skillOf(item);
        latestExplanation.clear();
        if (!progress.isOpen(item)) {
            latestExplanation.add(CODE_ANSWERED, progress.day());
        } else if (progress.isMastered(skill)) {
            latestExplanation.add(CODE_MASTERED, skill);
        } else if (!progress.isReady(skill)) {
            latestExplanation.add(CODE_NOT_READY, skill);
            explainBlocking(skill);
        } else {
            int advised = Advice.forLearning(course, progress);
            latestExplanation.add(advised == item ? CODE_ADVISED : CODE_OTHER_ITEM, advised);
        }
        return latestExplanation.levels();
    }

    public int explanation(int level, int what) {
        if (!isWithin(level, 0, latestExplanation.levels() - 1)) {
            return NONE;
        }
        switch (what) {
            case 0: return latestExplanation.codeAt(level);
            case 1: return latestExplanation.numberAt(level);
            default: return BAD_ARGUMENT;
        }
    }

    public int replayed(int skill, int against) {
        if (!course.hasSkill(skill)) {
            return NONE;
        }
        if (!isWithin(against, 0, 1)) {
            return BAD_ARGUMENT;
        }
        log.replayInto(trial);
        SkillState state = trial.stateOf(skill);
        return against == 1 ? state.evidenceAgainst() : state.evidenceFor();
    }

    public int logEntry(int index, int what) {
        if (!isWithin(index, 0, log.size() - 1)) {
            return NONE;
        }
        switch (what) {
            case 0: return log.itemAt(index);
            case 1: return log.rightAt(index);
            default: return BAD_ARGUMENT;
        }
    }

    public int count(int what) {
        switch (what) {
            case 0: return course.skills();
            case 1: return course.items();
            case 2: return progress.day();
            case 3: return progress.sumOfRightAnswers();
            case 4: return progress.sumOfWrongAnswers();
            case 5: return Integer.bitCount(progress.masteredSkills());
            case 6: return progress.readySkills();
            case 7: return log.size();
            case 8: return history.size();
            case 9: return text.length();
            case 10: return progress.sumOfEvidence();
            default: return BAD_ARGUMENT;
        }
    }

    public int write() {
        writtenText.clear();
        course.curriculum().writeTo(writtenText);
        return writtenText.length();
    }

    public int written(int index) {
        return writtenText.codeAt(index);
    }

    public int undo() {
        if (history.size() == 0) {
            return NONE;
        }
        history.popInto(progress);
        log.startAt(progress);
        return history.size();
    }

    public int save() {
        savedCourse.copyFrom(course);
        savedProgress.copyFrom(progress);
        hasSnapshot = true;
        return progress.day();
    }

    public int restore() {
        if (!hasSnapshot) {
            return NONE;
        }
        course.copyFrom(savedCourse);
        progress.copyFrom(savedProgress);
        startAgain();
        return progress.day();
    }

    private void startAgain() {
        history.clear();
        log.startAt(progress);
    }

    private int answerMixed(Progress learner, int most) {
        for (int given = 0; given < most; given++) {
            int advised = Advice.mixed(course, learner);
            if (advised == NONE) {
                return given;
            }
            learner.takeAnswer(advised, true);
        }
        return most;
    }

    /** A prerequisite has lower numbers only, so the chain of causes ends before MAX_SKILLS levels. */
    private void explainBlocking(int skill) {
        int mastered = progress.masteredSkills();
        int blocked = skill;
        for (int i = 0; i < MAX_SKILLS && !course.curriculum().isReady(blocked, mastered); i++) {
            blocked = course.curriculum().firstBlocking(blocked, mastered);
            latestExplanation.add(CODE_BLOCKED, blocked);
        }
    }

    private static int masteryIn(Progress learner, int skill, int part) {
        SkillState state = learner.stateOf(skill);
        return inLowestTerms(state.masteryNumerator(), state.masteryDenominator(), part);
    }

    private static int inLowestTerms(int numerator, int denominator, int part) {
        int divisor = greatestCommonDivisor(numerator, denominator);
        if (divisor == 0) {
            return 0;
        }
        return part == 0 ? numerator / divisor : denominator / divisor;
    }

    /** Two ints need fewer than 50 steps, since every second step more than halves the number. */
    private static int greatestCommonDivisor(int a, int b) {
        int greater = a;
        int rest = b;
        for (int i = 0; i < 64 && rest != 0; i++) {
            int next = greater % rest;
            greater = rest;
            rest = next;
        }
        return greater;
    }

    private static boolean isWithin(int value, int least, int greatest) {
        return value >= least && value <= greatest;
    }

    /** A row of at most MAX_TEXT characters. */
    private static final class TextRow {
        private final int[] codes = new int[MAX_TEXT];
        private int length = 0;

        void clear() {
            length = 0;
        }

        void add(int code) {
            if (length < MAX_TEXT) {
                codes[length] = code;
                length++;
            }
        }

        int length() {
            return length;
        }

        int codeAt(int index) {
            return index >= 0 && index < length ? codes[index] : NONE;
        }
    }

    /** A prerequisite or a part of one: a skill, an and over parts, or an or over parts. */
    private static final class Expression {
        private static final int SKILL = 0;
        private static final int AND = 1;
        private static final int OR = 2;

        private final int kind;
        private final int skill;
        private final Expression firstPart;
        private Expression nextPart = null;

        private Expression(int kind, int skill, Expression firstPart) {
            this.kind = kind;
            this.skill = skill;
            this.firstPart = firstPart;
        }

        static Expression ofSkill(int skill) {
            return new Expression(SKILL, skill, null);
        }

        static Expression and(Expression firstPart) {
            return new Expression(AND, NONE, firstPart);
        }

        static Expression or(Expression firstPart) {
            return new Expression(OR, NONE, firstPart);
        }

        void continueWith(Expression part) {
            nextPart = part;
        }

        int skills() {
            return skillsIn(this, 0);
        }

        boolean isFulfilledBy(int mastered) {
            return isFulfilled(this, mastered, 0);
        }

        int firstBlocking(int mastered) {
            return blocking(this, mastered, 0);
        }

        void writeTo(TextRow out) {
            writePart(this, out, 0);
        }

        private static int skillsIn(Expression e, int depth) {
            if (e == null || depth > MAX_DEPTH) {
                return 0;
            }
            if (e.kind == SKILL) {
                return 1 << e.skill;
            }
            int skills = 0;
            for (Expression part = e.firstPart; part != null; part = part.nextPart) {
                skills |= skillsIn(part, depth + 1);
            }
            return skills;
        }

        private static boolean isFulfilled(Expression e, int mastered, int depth) {
            if (e == null || depth > MAX_DEPTH) {
                return false;
            }
            if (e.kind == SKILL) {
                return (mastered >> e.skill & 1) == 1;
            }
            boolean needsAll = e.kind == AND;
            for (Expression part = e.firstPart; part != null; part = part.nextPart) {
                if (isFulfilled(part, mastered, depth + 1) != needsAll) {
                    return !needsAll;
                }
            }
            return needsAll;
        }

        private static int blocking(Expression e, int mastered, int depth) {
            if (e == null || depth > MAX_DEPTH) {
                return NONE;
            }
            if (e.kind == SKILL) {
                return e.skill;
            }
            if (e.kind == OR) {
                return blocking(e.firstPart, mastered, depth + 1);
            }
            for (Expression part = e.firstPart; part != null; part = part.nextPart) {
                if (!isFulfilled(part, mastered, depth + 1)) {
                    return blocking(part, mastered, depth + 1);
                }
            }
            return NONE;
        }

        private static void writePart(Expression e, TextRow out, int depth) {
            if (e == null || depth > MAX_DEPTH) {
                return;
            }
            if (e.kind == SKILL) {
                out.add('0' + e.skill);
                return;
            }
            for (Expression part = e.firstPart; part != null; part = part.nextPart) {
                if (part != e.firstPart) {
                    out.add(e.kind == AND ? '&' : '|');
                }
                boolean isOrInAnd = e.kind == AND && part.kind == OR;
                if (isOrInAnd) {
                    out.add('(');
                }
                writePart(part, out, depth + 1);
                if (isOrInAnd) {
                    out.add(')');
                }
            }
        }
    }

    /** The skills with their pass marks and prerequisites; nothing in it changes once it was read. */
    private static final class Curriculum {
        private final int[] passMarks = new int[MAX_SKILLS];
        private final int[] required = new int[MAX_SKILLS];
        private final Expression[] prerequisites = new Expression[MAX_SKILLS];
        private int size = 0;

        void addSkill(int passMark, Expression prerequisite) {
            if (size < MAX_SKILLS) {
                passMarks[size] = passMark;
                prerequisites[size] = prerequisite;
                required[size] = prerequisite == null ? 0 : prerequisite.skills();
                size++;
            }
        }

        int size() {
            return size;
        }

        boolean has(int skill) {
            return skill >= 0 && skill < size;
        }

        int passMark(int skill) {
            return has(skill) ? passMarks[skill] : NONE;
        }

        /** As a set of bits. */
        int requiredSkills(int skill) {
            return has(skill) ? required[skill] : 0;
        }

        boolean isReady(int skill, int mastered) {
            Expression prerequisite = prerequisiteOf(skill);
            return prerequisite == null || prerequisite.isFulfilledBy(mastered);
        }

        int firstBlocking(int skill, int mastered) {
            Expression prerequisite = prerequisiteOf(skill);
            return prerequisite == null ? NONE : prerequisite.firstBlocking(mastered);
        }

        void writeTo(TextRow out) {
            for (int skill = 0; skill < size; skill++) {
                if (skill > 0) {
                    out.add(';');
                }
                writeNumber(passMarks[skill], out);
                Expression prerequisite = prerequisites[skill];
                if (prerequisite != null) {
                    out.add('=');
                    prerequisite.writeTo(out);
                }
            }
        }

        private Expression prerequisiteOf(int skill) {
            return has(skill) ? prerequisites[skill] : null;
        }

        private static void writeNumber(int number, TextRow out) {
            if (number >= 10) {
                out.add('0' + number / 10);
            }
            out.add('0' + number % 10);
        }
    }

    /** Reads a text as a curriculum; it stops before the first character that cannot continue one. */
    private static final class CurriculumReader {
        private final TextRow source;
        private int offset = 0;

        CurriculumReader(TextRow source) {
            this.source = source;
        }

        /** Null if the text has a syntax error, which is then at the offset. */
        Curriculum read() {
            offset = 0;
            Curriculum curriculum = new Curriculum();
            for (int number = 0; number < MAX_SKILLS; number++) {
                if (!readSkill(curriculum)) {
                    return null;
                }
                if (offset >= source.length()) {
                    return curriculum;
                }
                boolean isLast = number == MAX_SKILLS - 1;
                if (isLast || !accept(';')) {
                    return null;
                }
            }
            return null;
        }

        int offset() {
            return offset;
        }

        private boolean readSkill(Curriculum curriculum) {
            int passMark = readPassMark();
            if (passMark == NONE) {
                return false;
            }
            if (!accept('=')) {
                curriculum.addSkill(passMark, null);
                return true;
            }
            Expression prerequisite = readOr(curriculum.size(), 0);
            if (prerequisite == null) {
                return false;
            }
            curriculum.addSkill(passMark, prerequisite);
            return true;
        }

        private int readPassMark() {
            int first = digitHere();
            if (first < 1) {
                return NONE;
            }
            offset++;
            int second = digitHere();
            if (second == NONE) {
                return first;
            }
            offset++;
            return 10 * first + second;
        }

        private Expression readOr(int skillsBefore, int nesting) {
            Expression first = readAnd(skillsBefore, nesting);
            if (first == null || source.codeAt(offset) != '|') {
                return first;
            }
            Expression last = first;
            for (int i = 0; i < MAX_TEXT && accept('|'); i++) {
                Expression part = readAnd(skillsBefore, nesting);
                if (part == null) {
                    return null;
                }
                last.continueWith(part);
                last = part;
            }
            return Expression.or(first);
        }

        private Expression readAnd(int skillsBefore, int nesting) {
            Expression first = readAtom(skillsBefore, nesting);
            if (first == null || source.codeAt(offset) != '&') {
                return first;
            }
            Expression last = first;
            for (int i = 0; i < MAX_TEXT && accept('&'); i++) {
                Expression part = readAtom(skillsBefore, nesting);
                if (part == null) {
                    return null;
                }
                last.continueWith(part);
                last = part;
            }
            return Expression.and(first);
        }

        private Expression readAtom(int skillsBefore, int nesting) {
            int digit = digitHere();
            if (digit != NONE) {
                if (digit >= skillsBefore) {
                    return null;
                }
                offset++;
                return Expression.ofSkill(digit);
            }
            if (nesting >= MAX_NESTING || !accept('(')) {
                return null;
            }
            Expression inner = readOr(skillsBefore, nesting + 1);
            return inner != null && accept(')') ? inner : null;
        }

        private boolean accept(char wanted) {
            if (source.codeAt(offset) != wanted) {
                return false;
            }
            offset++;
            return true;
        }

        private int digitHere() {
            int code = source.codeAt(offset);
            return code >= '0' && code <= '9' ? code - '0' : NONE;
        }
    }

    /** What is taught: the curriculum and the items. */
    private static final class Course {
        private final int[] itemSkills = new int[MAX_ITEMS];
        private final int[] itemDifficulties = new int[MAX_ITEMS];
        private int items = 0;
        private Curriculum curriculum = new Curriculum();

        Course() {
            curriculum.addSkill(FIRST_PASS_MARK, null);
        }

        void begin(Curriculum newCurriculum) {
            curriculum = newCurriculum;
            items = 0;
        }

        void copyFrom(Course other) {
            curriculum = other.curriculum;
            items = other.items;
            System.arraycopy(other.itemSkills, 0, itemSkills, 0, MAX_ITEMS);
            System.arraycopy(other.itemDifficulties, 0, itemDifficulties, 0, MAX_ITEMS);
        }

        Curriculum curriculum() {
            return curriculum;
        }

        int skills() {
            return curriculum.size();
        }

        int items() {
            return items;
        }

        boolean hasSkill(int skill) {
            return curriculum.has(skill);
        }

        boolean hasItem(int item) {
            return item >= 0 && item < items;
        }

        /** The number of the new item; FULL if there is no place for one. */
        int put(int skill, int difficulty) {
            if (items >= MAX_ITEMS) {
                return FULL;
            }
            itemSkills[items] = skill;
            itemDifficulties[items] = difficulty;
            items++;
            return items - 1;
        }

        int skillOf(int item) {
            return hasItem(item) ? itemSkills[item] : NONE;
        }

        int difficultyOf(int item) {
            return hasItem(item) ? itemDifficulties[item] : NONE;
        }
    }

    /** What answers and days have made of a skill. */
    private static final class SkillState {
        private int evidenceFor;
        private int evidenceAgainst;
        private int interval;
        private int dueDay;
        private int practiceDay;
        private int givenFor;
        private int givenAgainst;
        private int cutOff;
        private int decayed;

        SkillState() {
            clear();
        }

        void clear() {
            evidenceFor = 0;
            evidenceAgainst = 0;
            interval = 1;
            dueDay = NONE;
            practiceDay = NONE;
            givenFor = 0;
            givenAgainst = 0;
            cutOff = 0;
            decayed = 0;
        }

        void copyFrom(SkillState other) {
            evidenceFor = other.evidenceFor;
            evidenceAgainst = other.evidenceAgainst;
            interval = other.interval;
            dueDay = other.dueDay;
            practiceDay = other.practiceDay;
            givenFor = other.givenFor;
            givenAgainst = other.givenAgainst;
            cutOff = other.cutOff;
            decayed = other.decayed;
        }

        int evidenceFor() {
            return evidenceFor;
        }

        int evidenceAgainst() {
            return evidenceAgainst;
        }

        int interval() {
            return interval;
        }

        int dueDay() {
            return dueDay;
        }

        int practiceDay() {
            return practiceDay;
        }

        int givenFor() {
            return givenFor;
        }

        int givenAgainst() {
            return givenAgainst;
        }

        int cutOff() {
            return cutOff;
        }

        int decayed() {
            return decayed;
        }

        int masteryNumerator() {
            return evidenceFor + PRIOR_EVIDENCE;
        }

        int masteryDenominator() {
            return evidenceFor + evidenceAgainst + 2 * PRIOR_EVIDENCE;
        }

        boolean reaches(int passMark) {
            return 100 * masteryNumerator() >= passMark * masteryDenominator();
        }

        boolean hasLessMasteryThan(SkillState other) {
            return masteryNumerator() * other.masteryDenominator()
                    < other.masteryNumerator() * masteryDenominator();
        }

        boolean isDueOn(int day) {
            return dueDay != NONE && dueDay <= day;
        }

        void practise(int day, boolean right) {
            practiceDay = day;
            if (right) {
                addFor(ANSWER_EVIDENCE);
                interval = Math.min(2 * interval, MAX_INTERVAL);
            } else {
                addAgainst(ANSWER_EVIDENCE);
                interval = 1;
            }
            dueDay = day + interval;
        }

        void addFor(int amount) {
            int sum = evidenceFor + amount;
            evidenceFor = Math.min(sum, MAX_EVIDENCE);
            givenFor += amount;
            cutOff += sum - evidenceFor;
        }

        void addAgainst(int amount) {
            int sum = evidenceAgainst + amount;
            evidenceAgainst = Math.min(sum, MAX_EVIDENCE);
            givenAgainst += amount;
            cutOff += sum - evidenceAgainst;
        }

        void passTo(int newDay) {
            if (practiceDay == NONE || newDay - practiceDay < interval) {
                return;
            }
            int lossFor = evidenceFor / DECAY_DIVISOR;
            int lossAgainst = evidenceAgainst / DECAY_DIVISOR;
            evidenceFor -= lossFor;
            evidenceAgainst -= lossAgainst;
            decayed += lossFor + lossAgainst;
        }
    }

    /**
     * All that answers and days change. An item that is not yet added has no answers here, so
     * that undoing a call from before it was added leaves it without answers.
     */
    private static final class Progress {
        private final Course course;
        private final SkillState[] states = new SkillState[MAX_SKILLS];
        private final int[] rights = new int[MAX_ITEMS];
        private final int[] wrongs = new int[MAX_ITEMS];
        private final int[] answerDays = new int[MAX_ITEMS];
        /** Stands for a skill that does not exist, so that nobody gets a null. */
        private final SkillState noState = new SkillState();
        private int day;

        Progress(Course course) {
            this.course = course;
            for (int skill = 0; skill < MAX_SKILLS; skill++) {
                states[skill] = new SkillState();
            }
            clear();
        }

        void clear() {
            day = 0;
            for (int skill = 0; skill < MAX_SKILLS; skill++) {
                states[skill].clear();
            }
            for (int item = 0; item < MAX_ITEMS; item++) {
                rights[item] = 0;
                wrongs[item] = 0;
                answerDays[item] = NONE;
            }
        }

        void copyFrom(Progress other) {
            day = other.day;
            for (int skill = 0; skill < MAX_SKILLS; skill++) {
                states[skill].copyFrom(other.states[skill]);
            }
            System.arraycopy(other.rights, 0, rights, 0, MAX_ITEMS);
            System.arraycopy(other.wrongs, 0, wrongs, 0, MAX_ITEMS);
            System.arraycopy(other.answerDays, 0, answerDays, 0, MAX_ITEMS);
        }

        int day() {
            return day;
        }

        SkillState stateOf(int skill) {
            return skill >= 0 && skill < MAX_SKILLS ? states[skill] : noState;
        }

        boolean isMastered(int skill) {
            return stateOf(skill).reaches(course.curriculum().passMark(skill));
        }

        /** As a set of bits. */
        int masteredSkills() {
            Curriculum curriculum = course.curriculum();
            int mastered = 0;
            for (int skill = 0; skill < curriculum.size(); skill++) {
                if (stateOf(skill).reaches(curriculum.passMark(skill))) {
                    mastered |= 1 << skill;
                }
            }
            return mastered;
        }

        boolean isReady(int skill) {
            return course.curriculum().isReady(skill, masteredSkills());
        }

        int readySkills() {
            int mastered = masteredSkills();
            int ready = 0;
            for (int skill = 0; skill < course.skills(); skill++) {
                if (course.curriculum().isReady(skill, mastered)) {
                    ready++;
                }
            }
            return ready;
        }

        boolean isDue(int skill) {
            return stateOf(skill).isDueOn(day);
        }

        /** How many due skills come before a due skill in their order. */
        int dueBefore(int skill) {
            int own = stateOf(skill).dueDay();
            int before = 0;
            for (int other = 0; other < course.skills(); other++) {
                int others = stateOf(other).dueDay();
                if (isDue(other) && (others < own || others == own && other < skill)) {
                    before++;
                }
            }
            return before;
        }

        int rightAnswers(int item) {
            return item >= 0 && item < MAX_ITEMS ? rights[item] : 0;
        }

        int wrongAnswers(int item) {
            return item >= 0 && item < MAX_ITEMS ? wrongs[item] : 0;
        }

        int answerDay(int item) {
            return item >= 0 && item < MAX_ITEMS ? answerDays[item] : NONE;
        }

        boolean isOpen(int item) {
            return answerDay(item) != day;
        }

        int chanceNumerator(int item) {
            return stateOf(course.skillOf(item)).masteryNumerator();
        }

        int chanceDenominator(int item) {
            return stateOf(course.skillOf(item)).masteryDenominator()
                    + DIFFICULTY_WEIGHT * course.difficultyOf(item);
        }

        int sumOfRightAnswers() {
            int sum = 0;
            for (int item = 0; item < MAX_ITEMS; item++) {
                sum += rights[item];
            }
            return sum;
        }

        int sumOfWrongAnswers() {
            int sum = 0;
            for (int item = 0; item < MAX_ITEMS; item++) {
                sum += wrongs[item];
            }
            return sum;
        }

        int sumOfEvidence() {
            int sum = 0;
            for (int skill = 0; skill < course.skills(); skill++) {
                SkillState state = stateOf(skill);
                sum += state.evidenceFor() + state.evidenceAgainst();
            }
            return sum;
        }

        /** An item that does not exist changes nothing. */
        void takeAnswer(int item, boolean right) {
            if (!course.hasItem(item)) {
                return;
            }
            int skill = course.skillOf(item);
            int masteredBefore = masteredSkills();
            stateOf(skill).practise(day, right);
            int required = course.curriculum().requiredSkills(skill);
            for (int other = 0; other < course.skills(); other++) {
                boolean isRequired = (required >> other & 1) == 1;
                if (isRequired && right) {
                    stateOf(other).addFor(REQUIRED_EVIDENCE);
                } else if (isRequired && (masteredBefore >> other & 1) == 0) {
                    stateOf(other).addAgainst(REQUIRED_EVIDENCE);
                }
            }
            countAnswer(item, right);
        }

        void passDay() {
            day++;
            for (int skill = 0; skill < course.skills(); skill++) {
                stateOf(skill).passTo(day);
            }
        }

        private void countAnswer(int item, boolean right) {
            if (item < 0 || item >= MAX_ITEMS) {
                return;
            }
            if (right) {
                rights[item]++;
            } else {
                wrongs[item]++;
            }
            answerDays[item] = day;
        }
    }

    /** Chooses the item that is advised. */
    private static final class Advice {
        private Advice() {
        }

        static int byWay(int way, Course course, Progress progress) {
            switch (way) {
                case WAY_REVIEW: return forReview(course, progress);
                case WAY_LEARNING: return forLearning(course, progress);
                case WAY_DIAGNOSIS: return forDiagnosis(course, progress);
                default: return mixed(course, progress);
            }
        }

        static int forReview(Course course, Progress progress) {
            int best = NONE;
            int bestItem = NONE;
            for (int skill = 0; skill < course.skills(); skill++) {
                boolean isEarlier = progress.isDue(skill) && (best == NONE
                        || progress.stateOf(skill).dueDay() < progress.stateOf(best).dueDay());
                int item = isEarlier ? easiestOpenItem(skill, course, progress) : NONE;
                if (item != NONE) {
                    best = skill;
                    bestItem = item;
                }
            }
            return bestItem;
        }

        static int forLearning(Course course, Progress progress) {
            int mastered = progress.masteredSkills();
            int best = NONE;
            int bestItem = NONE;
            for (int skill = 0; skill < course.skills(); skill++) {
                boolean isToLearn = (mastered >> skill & 1) == 0 && course.curriculum().isReady(skill, mastered);
                boolean isLess = isToLearn && (best == NONE
                        || progress.stateOf(skill).hasLessMasteryThan(progress.stateOf(best)));
                int item = isLess ? easiestOpenItem(skill, course, progress) : NONE;
                if (item != NONE) {
                    best = skill;
                    bestItem = item;
                }
            }
            return bestItem;
        }

        static int forDiagnosis(Course course, Progress progress) {
            int best = NONE;
            for (int item = 0; item < course.items(); item++) {
                if (progress.isOpen(item) && (best == NONE || tellsMore(item, best, progress))) {
                    best = item;
                }
            }
            return best;
        }

        static int mixed(Course course, Progress progress) {
            int item = forReview(course, progress);
            if (item == NONE) {
                item = forLearning(course, progress);
            }
            return item == NONE ? forDiagnosis(course, progress) : item;
        }

        private static int easiestOpenItem(int skill, Course course, Progress progress) {
            int best = NONE;
            for (int item = 0; item < course.items(); item++) {
                boolean isCandidate = course.skillOf(item) == skill && progress.isOpen(item);
                if (isCandidate && (best == NONE || course.difficultyOf(item) < course.difficultyOf(best))) {
                    best = item;
                }
            }
            return best;
        }

        /** Compares the information of two items; the products of four numbers need a long. */
        private static boolean tellsMore(int item, int other, Progress progress) {
            long n = progress.chanceNumerator(item);
            long d = progress.chanceDenominator(item);
            long otherN = progress.chanceNumerator(other);
            long otherD = progress.chanceDenominator(other);
            return n * (d - n) * otherD * otherD > otherN * (otherD - otherN) * d * d;
        }
    }

    /** The latest answers and days, and the state that was before them. */
    private static final class Log {
        private final int[] items = new int[MAX_LOG];
        private final int[] rights = new int[MAX_LOG];
        private final Progress start;
        private int first = 0;
        private int size = 0;

        Log(Course course) {
            start = new Progress(course);
        }

        void startAt(Progress progress) {
            start.copyFrom(progress);
            first = 0;
            size = 0;
        }

        void addAnswer(int item, int right) {
            add(item, right);
        }

        void addDay() {
            add(NONE, 0);
        }

        int size() {
            return size;
        }

        int itemAt(int index) {
            return index >= 0 && index < size ? items[(first + index) % MAX_LOG] : NONE;
        }

        int rightAt(int index) {
            return index >= 0 && index < size ? rights[(first + index) % MAX_LOG] : 0;
        }

        void replayInto(Progress progress) {
            progress.copyFrom(start);
            for (int index = 0; index < size; index++) {
                apply(index, progress);
            }
        }

        private void add(int item, int right) {
            if (size == MAX_LOG) {
                apply(0, start);
                first = (first + 1) % MAX_LOG;
                size--;
            }
            int place = (first + size) % MAX_LOG;
            items[place] = item;
            rights[place] = right;
            size++;
        }

        private void apply(int index, Progress progress) {
            int item = itemAt(index);
            if (item == NONE) {
                progress.passDay();
            } else {
                progress.takeAnswer(item, rightAt(index) == 1);
            }
        }
    }

    /** The states before the latest changes; a change beyond the limit takes the oldest one's place. */
    private static final class History {
        private final Progress[] states = new Progress[MAX_UNDO];
        private int next = 0;
        private int size = 0;

        History(Course course) {
            for (int i = 0; i < MAX_UNDO; i++) {
                states[i] = new Progress(course);
            }
        }

        int size() {
            return size;
        }

        void clear() {
            size = 0;
        }

        void push(Progress progress) {
            states[next].copyFrom(progress);
            next = (next + 1) % MAX_UNDO;
            size = Math.min(size + 1, MAX_UNDO);
        }

        void popInto(Progress progress) {
            if (size > 0) {
                next = (next + MAX_UNDO - 1) % MAX_UNDO;
                size--;
                progress.copyFrom(states[next]);
            }
        }
    }

    /** The levels of the latest explanation: at most one for each skill of a chain of causes. */
    private static final class Explanation {
        private final int[] codes = new int[MAX_SKILLS + 1];
        private final int[] numbers = new int[MAX_SKILLS + 1];
        private int levels = 0;

        void clear() {
            levels = 0;
        }

        void add(int code, int number) {
            if (levels < codes.length && levels < numbers.length) {
                codes[levels] = code;
                numbers[levels] = number;
                levels++;
            }
        }

        int levels() {
            return levels;
        }

        int codeAt(int level) {
            return level >= 0 && level < levels ? codes[level] : NONE;
        }

        int numberAt(int level) {
            return level >= 0 && level < levels ? numbers[level] : NONE;
        }
    }
}
