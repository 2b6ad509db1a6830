/** Items, answers, days, mastery, skills, accounts and counts: promises 4 to 9, 16 and 22. */
public final class PracticeTest {
    private static final Check CHECK = new Check();

    private static void itemsAreAdded() {
        LearningAdvisor x = new LearningAdvisor();
        CHECK.due("addItem(-1, 0)", x.addItem(-1, 0), -1);
        CHECK.due("addItem(1, 0)", x.addItem(1, 0), -1);
        CHECK.due("addItem(1, 9), the first error", x.addItem(1, 9), -1);
        CHECK.due("addItem(0, -1)", x.addItem(0, -1), -2);
        CHECK.due("addItem(0, 5)", x.addItem(0, 5), -2);
        for (int item = 0; item < 12; item++) {
            CHECK.due("addItem", x.addItem(0, item % 5), item);
        }
        CHECK.due("addItem, the thirteenth", x.addItem(0, 0), -3);
        CHECK.due("addItem(0, 5), the first error", x.addItem(0, 5), -2);
        CHECK.due("count(1)", x.count(1), 12);
        CHECK.due("item(11, 1)", x.item(11, 1), 1);
    }

    private static void itemsTellTheirProperties() {
        LearningAdvisor x = new LearningAdvisor();
        Advisors.read(x, "50;50");
        x.addItem(1, 4);
        x.nextDay(3);
        x.answer(0, 1);
        x.nextDay(2);
        x.answer(0, 0);
        x.nextDay(2);
        x.answer(0, 1);
        int[] properties = {1, 4, 2, 1, 7};
        for (int what = 0; what < 5; what++) {
            CHECK.due("item(0, " + what + ")", x.item(0, what), properties[what]);
        }
        CHECK.due("item(1, 0)", x.item(1, 0), -1);
        CHECK.due("item(-1, 7)", x.item(-1, 7), -1);
        CHECK.due("item(0, 5)", x.item(0, 5), -2);
        CHECK.due("item(0, -1)", x.item(0, -1), -2);
        x.undo();
        CHECK.due("item(0, 2) undone", x.item(0, 2), 1);
        CHECK.due("item(0, 4) undone", x.item(0, 4), 5);
    }

    private static void answersTellErrors() {
        LearningAdvisor x = Advisors.withItems("51");
        CHECK.due("answer(1, 1)", x.answer(1, 1), -1);
        CHECK.due("answer(-1, 2)", x.answer(-1, 2), -1);
        CHECK.due("answer(0, 2)", x.answer(0, 2), -2);
        CHECK.due("answer(0, -1)", x.answer(0, -1), -2);
        CHECK.due("nothing changed", x.count(8) + x.count(7) + x.count(10), 0);
        CHECK.due("answer(0, 1)", x.answer(0, 1), 1);
        CHECK.due("answer(0, 0)", x.answer(0, 0), -4);
        CHECK.due("answer(0, 2), the first error", x.answer(0, 2), -2);
        CHECK.due("one answer only", x.count(8) + x.count(7), 2);
        x.nextDay(1);
        CHECK.due("answer(0, 0) on another day", x.answer(0, 0), 0);
    }

    private static void masteryIsReachedExactly() {
        LearningAdvisor x = Advisors.withItems("50;51;66;67");
        CHECK.due("skill(0, 5)", x.skill(0, 5), 1);
        CHECK.due("skill(1, 5)", x.skill(1, 5), 0);
        CHECK.due("answer(2, 1): 2/3 of 66", x.answer(2, 1), 1);
        CHECK.due("answer(3, 1): 2/3 of 67", x.answer(3, 1), 0);
        CHECK.due("answer(0, 0): 1/3 of 50", x.answer(0, 0), 0);
        CHECK.due("mastery(2, 0)", x.mastery(2, 0), 2);
        CHECK.due("mastery(2, 1)", x.mastery(2, 1), 3);
        CHECK.due("mastery(0, 0)", x.mastery(0, 0), 1);
        CHECK.due("mastery(0, 1)", x.mastery(0, 1), 3);
        CHECK.due("mastery(4, 2)", x.mastery(4, 2), -1);
        CHECK.due("mastery(-1, 0)", x.mastery(-1, 0), -1);
        CHECK.due("mastery(0, 2)", x.mastery(0, 2), -2);
        CHECK.due("mastery(0, -1)", x.mastery(0, -1), -2);
        CHECK.due("count(5)", x.count(5), 1);
    }

    private static void rightAnswersHelpWhatIsRequired() {
        LearningAdvisor x = Advisors.withItems("50;50=0;60=0&(1|0)&1;50=2");
        x.answer(2, 1);
        CHECK.due("skill(2, 0)", x.skill(2, 0), 16);
        CHECK.due("skill(1, 0), though it stands there twice", x.skill(1, 0), 4);
        CHECK.due("skill(0, 0), though it stands there twice", x.skill(0, 0), 4);
        CHECK.due("skill(3, 0)", x.skill(3, 0), 0);
        x.answer(3, 1);
        CHECK.due("skill(2, 0)", x.skill(2, 0), 20);
        CHECK.due("skill(1, 0), required only by the required", x.skill(1, 0), 4);
        CHECK.due("skill(1, 4), not practised", x.skill(1, 4), -1);
        CHECK.due("skill(1, 2)", x.skill(1, 2), 1);
        CHECK.due("skill(1, 3)", x.skill(1, 3), -1);
        CHECK.due("account(2, 0)", x.account(2, 0), 20);
        CHECK.due("account(2, 1)", x.account(2, 1), 0);
    }

    private static void wrongAnswersBlameWhatIsNotMastered() {
        LearningAdvisor x = Advisors.withItems("50;60;40=0&1");
        x.answer(2, 0);
        CHECK.due("skill(2, 1)", x.skill(2, 1), 16);
        CHECK.due("skill(0, 1), mastered before", x.skill(0, 1), 0);
        CHECK.due("skill(1, 1), not mastered", x.skill(1, 1), 4);
        CHECK.due("account(1, 1)", x.account(1, 1), 4);
        CHECK.due("account(0, 1)", x.account(0, 1), 0);
        CHECK.due("count(3)", x.count(3), 0);
        CHECK.due("count(4)", x.count(4), 1);
        CHECK.due("count(10)", x.count(10), 20);
    }

    private static void intervalsDoubleUpToTheirLimit() {
        LearningAdvisor x = Advisors.withItems("50");
        int[] intervals = {2, 4, 8, 16, 32, 64, 64};
        for (int i = 0; i < intervals.length; i++) {
            x.answer(0, 1);
            CHECK.due("interval", x.skill(0, 2), intervals[i]);
            CHECK.due("due day", x.skill(0, 3), i + intervals[i]);
            CHECK.due("practice day", x.skill(0, 4), i);
            x.nextDay(1);
        }
        CHECK.due("due day stays", x.skill(0, 3), 70);
        x.answer(0, 0);
        CHECK.due("interval after a wrong answer", x.skill(0, 2), 1);
        CHECK.due("due day after a wrong answer", x.skill(0, 3), 8);
    }

    private static void evidenceDecaysAfterItsInterval() {
        LearningAdvisor x = Advisors.withItems("50;50=0");
        x.answer(1, 1);
        x.nextDay(1);
        CHECK.due("within the interval", x.skill(1, 0), 16);
        x.nextDay(1);
        CHECK.due("at the interval", x.skill(1, 0), 14);
        CHECK.due("never practised", x.skill(0, 0), 4);
        int[] left = {13, 12, 11, 10, 9, 8, 7, 7};
        for (int i = 0; i < left.length; i++) {
            CHECK.due("nextDay", x.nextDay(1), 3 + i);
            CHECK.due("decayed", x.skill(1, 0), left[i]);
        }
        CHECK.due("account(1, 3)", x.account(1, 3), 9);
        CHECK.due("account(1, 0)", x.account(1, 0), 16);
        CHECK.due("account(0, 3)", x.account(0, 3), 0);
        x.answer(1, 0);
        CHECK.due("against", x.skill(1, 1), 16);
        x.nextDay(1);
        CHECK.due("against after a day", x.skill(1, 1), 14);
        CHECK.due("for after a day", x.skill(1, 0), 7);
        CHECK.due("account(1, 3)", x.account(1, 3), 11);
    }

    private static void daysHaveLimits() {
        LearningAdvisor x = new LearningAdvisor();
        CHECK.due("nextDay(0)", x.nextDay(0), -2);
        CHECK.due("nextDay(-1)", x.nextDay(-1), -2);
        CHECK.due("nextDay(61)", x.nextDay(61), -2);
        CHECK.due("nextDay(greatest)", x.nextDay(Integer.MAX_VALUE), -2);
        for (int i = 1; i <= 166; i++) {
            CHECK.due("nextDay(60)", x.nextDay(60), 60 * i);
        }
        CHECK.due("nextDay(40)", x.nextDay(40), -3);
        CHECK.due("nextDay(61), the first error", x.nextDay(61), -2);
        CHECK.due("count(2)", x.count(2), 9960);
        CHECK.due("nextDay(39)", x.nextDay(39), 9999);
        CHECK.due("nextDay(1)", x.nextDay(1), -3);
        CHECK.due("undo()", x.undo(), 5);
        CHECK.due("count(2)", x.count(2), 9960);
    }

    private static void evidenceAgainstIsCutOff() {
        LearningAdvisor x = fullOfItems("60;50=0", 1);
        answerMany(x, 0, 36);
        // 192 a day, less an eighth overnight: 192 - 24 + 192 - 45 + 192 is 27 too much.
        CHECK.due("skill(1, 1)", x.skill(1, 1), 480);
        CHECK.due("account(1, 1)", x.account(1, 1), 576);
        CHECK.due("account(1, 2)", x.account(1, 2), 27);
        CHECK.due("account(1, 3)", x.account(1, 3), 69);
        CHECK.due("account(1, 0)", x.account(1, 0), 0);
        CHECK.due("skill(0, 1)", x.skill(0, 1), 144);
        CHECK.due("account(0, 2)", x.account(0, 2), 0);
    }

    private static void evidenceForIsCutOff() {
        LearningAdvisor x = fullOfItems("50;50=0", 1);
        answerMany(x, 1, 30);
        CHECK.due("full", x.skill(1, 0), 480);
        CHECK.due("nothing cut off yet", x.account(1, 2), 0);
        answerMany(x, 1, 1);
        CHECK.due("still full", x.skill(1, 0), 480);
        CHECK.due("cut off", x.account(1, 2), 16);
        CHECK.due("required", x.skill(0, 0), 124);
        x.undo();
        CHECK.due("cut off, undone", x.account(1, 2), 0);
        CHECK.due("mastery(1, 0)", x.mastery(1, 0), 31);
        CHECK.due("mastery(1, 1)", x.mastery(1, 1), 32);
    }

    private static LearningAdvisor fullOfItems(String curriculum, int skill) {
        LearningAdvisor x = new LearningAdvisor();
        Advisors.read(x, curriculum);
        for (int i = 0; i < 12; i++) {
            x.addItem(skill, 0);
        }
        return x;
    }

    private static void answerMany(LearningAdvisor x, int right, int answers) {
        for (int given = 0; given < answers; given++) {
            if (x.advise(2) == -1) {
                x.nextDay(1);
            }
            x.answer(x.advise(2), right);
        }
    }

    private static void skillsTellTheirProperties() {
        LearningAdvisor x = Advisors.withItems("51;51;40=(0|1)&1;50=0;50=2");
        CHECK.due("skill(2, 7)", x.skill(2, 7), 3);
        CHECK.due("skill(4, 7)", x.skill(4, 7), 4);
        CHECK.due("skill(0, 7)", x.skill(0, 7), 0);
        CHECK.due("skill(0, 6)", x.skill(0, 6), 1);
        CHECK.due("skill(2, 6)", x.skill(2, 6), 0);
        CHECK.due("skill(3, 6)", x.skill(3, 6), 0);
        CHECK.due("skill(4, 6)", x.skill(4, 6), 1);
        CHECK.due("count(6)", x.count(6), 3);
        x.answer(0, 1);
        CHECK.due("skill(2, 6), and", x.skill(2, 6), 0);
        CHECK.due("skill(3, 6)", x.skill(3, 6), 1);
        CHECK.due("count(6)", x.count(6), 4);
        x.answer(1, 1);
        CHECK.due("skill(2, 6), and", x.skill(2, 6), 1);
        CHECK.due("skill(5, 9)", x.skill(5, 9), -1);
        CHECK.due("skill(-1, 0)", x.skill(-1, 0), -1);
        CHECK.due("skill(0, 9)", x.skill(0, 9), -2);
        CHECK.due("skill(0, -1)", x.skill(0, -1), -2);
    }

    private static void accountsAndCountsTellErrors() {
        LearningAdvisor x = new LearningAdvisor();
        CHECK.due("account(1, 4)", x.account(1, 4), -1);
        CHECK.due("account(-1, 0)", x.account(-1, 0), -1);
        CHECK.due("account(0, 4)", x.account(0, 4), -2);
        CHECK.due("account(0, -1)", x.account(0, -1), -2);
        CHECK.due("count(11)", x.count(11), -2);
        CHECK.due("count(-1)", x.count(-1), -2);
    }

    public static void main(String[] args) {
        itemsAreAdded();
        itemsTellTheirProperties();
        answersTellErrors();
        masteryIsReachedExactly();
        rightAnswersHelpWhatIsRequired();
        wrongAnswersBlameWhatIsNotMastered();
        intervalsDoubleUpToTheirLimit();
        evidenceDecaysAfterItsInterval();
        daysHaveLimits();
        evidenceAgainstIsCutOff();
        evidenceForIsCutOff();
        skillsTellTheirProperties();
        accountsAndCountsTellErrors();
        CHECK.end();
    }
}
