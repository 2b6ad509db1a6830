/** Short ways to bring an advisor into a state, and to read what it wrote. */
final class Advisors {
    /** Above every length that the document allows, so that a wrong program cannot make a test endless. */
    private static final int MORE_THAN_ANY = 200;

    private Advisors() {
    }

    static void type(LearningAdvisor x, String text) {
        for (int i = 0; i < text.length(); i++) {
            x.append(text.charAt(i), 1);
        }
    }

    static int read(LearningAdvisor x, String text) {
        type(x, text);
        return x.readCurriculum();
    }

    static LearningAdvisor of(String curriculum) {
        LearningAdvisor x = new LearningAdvisor();
        read(x, curriculum);
        return x;
    }

    /** An advisor with a curriculum and one item of difficulty 0 for each skill, of the skill's number. */
    static LearningAdvisor withItems(String curriculum) {
        LearningAdvisor x = new LearningAdvisor();
        int skills = read(x, curriculum);
        for (int skill = 0; skill < skills; skill++) {
            x.addItem(skill, 0);
        }
        return x;
    }

    static void addItems(LearningAdvisor x, int count, int skill) {
        for (int i = 0; i < count; i++) {
            x.addItem(skill, 0);
        }
    }

    /** An advisor with a curriculum and twelve items of difficulty 0 of one skill. */
    static LearningAdvisor withTwelve(String curriculum, int skill) {
        LearningAdvisor x = of(curriculum);
        addItems(x, 12, skill);
        return x;
    }

    /** Answers the items with the numbers first to last. */
    static void answer(LearningAdvisor x, int first, int last, int right) {
        for (int item = first; item <= last; item++) {
            x.answer(item, right);
        }
    }

    /** Answers as often as wanted, each item once a day and a day further when all were answered. */
    static void answerTimes(LearningAdvisor x, int right, int answers) {
        for (int given = 0; given < answers; given++) {
            int open = x.advise(2);
            if (open == LearningAdvisor.NONE) {
                x.nextDay(1);
                open = x.advise(2);
            }
            x.answer(open, right);
        }
    }

    /** Goes to a day that lies at least as late as the present one. */
    static void goTo(LearningAdvisor x, int day) {
        int now = x.count(2);
        for (int i = 0; i < MORE_THAN_ANY && now < day; i++) {
            now = x.nextDay(Math.min(60, day - now));
        }
    }

    static String written(LearningAdvisor x) {
        StringBuilder text = new StringBuilder();
        for (int i = 0; i < MORE_THAN_ANY && x.written(i) != LearningAdvisor.NONE; i++) {
            text.append((char) x.written(i));
        }
        return text.toString();
    }

    static String explained(LearningAdvisor x, int item) {
        StringBuilder text = new StringBuilder();
        int levels = Math.min(x.explain(item), MORE_THAN_ANY);
        for (int level = 0; level < levels; level++) {
            text.append(x.explanation(level, 0)).append(':').append(x.explanation(level, 1)).append(' ');
        }
        return text.toString().trim();
    }

    static String logged(LearningAdvisor x) {
        StringBuilder text = new StringBuilder();
        int entries = Math.min(x.count(7), MORE_THAN_ANY);
        for (int i = 0; i < entries; i++) {
            text.append(x.logEntry(i, 0)).append(':').append(x.logEntry(i, 1)).append(' ');
        }
        return text.toString().trim();
    }
}
