/** Short ways to bring an advisor into a state, and to read what it wrote. */
final class Advisors {
    private Advisors() {
    }

    static void type(LearningAdvisor x, String text) {
        for (int i = 0; i < text.length(); i++) {
            x.append(text.charAt(i), 1);
        }
    }

    static int read(LearningAdvisor x, String text) {
        type(x, text);
        return x.readCurriculum();
    }

    /** An advisor with a curriculum and one item of difficulty 0 for each skill, of the skill's number. */
    static LearningAdvisor withItems(String curriculum) {
        LearningAdvisor x = new LearningAdvisor();
        int skills = read(x, curriculum);
        for (int skill = 0; skill < skills; skill++) {
            x.addItem(skill, 0);
        }
        return x;
    }

    static String written(LearningAdvisor x) {
        StringBuilder text = new StringBuilder();
        for (int i = 0; x.written(i) != LearningAdvisor.NONE; i++) {
            text.append((char) x.written(i));
        }
        return text.toString();
    }

    static String explained(LearningAdvisor x, int item) {
        StringBuilder text = new StringBuilder();
        int levels = x.explain(item);
        for (int level = 0; level < levels; level++) {
            text.append(x.explanation(level, 0)).append(':').append(x.explanation(level, 1)).append(' ');
        }
        return text.toString().trim();
    }

    static String logged(LearningAdvisor x) {
        StringBuilder text = new StringBuilder();
        for (int i = 0; i < x.count(7); i++) {
            text.append(x.logEntry(i, 0)).append(':').append(x.logEntry(i, 1)).append(' ');
        }
        return text.toString().trim();
    }
}
