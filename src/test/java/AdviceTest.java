/** Chances, advice, due skills, and what would be: promises 10 to 15 and 17. */
public final class AdviceTest {
    private static final Check CHECK = new Check();

    private static void chancesAreInLowestTerms() {
        LearningAdvisor x = new LearningAdvisor();
        for (int difficulty = 0; difficulty < 5; difficulty++) {
            x.addItem(0, difficulty);
        }
        int[] d = {2, 3, 4, 5, 6};
        for (int item = 0; item < 5; item++) {
            CHECK.due("chance(" + item + ", 0)", x.chance(item, 0), 1);
            CHECK.due("chance(" + item + ", 1)", x.chance(item, 1), d[item]);
            CHECK.due("chance(" + item + ", 2)", x.chance(item, 2), d[item] - 1);
            CHECK.due("chance(" + item + ", 3)", x.chance(item, 3), d[item] * d[item]);
        }
        x.answer(0, 1);
        CHECK.due("chance(1, 0) of 32 / 64", x.chance(1, 0), 1);
        CHECK.due("chance(1, 1) of 32 / 64", x.chance(1, 1), 2);
        CHECK.due("chance(3, 2) of 2 / 6", x.chance(3, 2), 2);
        CHECK.due("chance(3, 3) of 2 / 6", x.chance(3, 3), 9);
        CHECK.due("chance(5, 9)", x.chance(5, 9), -1);
        CHECK.due("chance(-1, 0)", x.chance(-1, 0), -1);
        CHECK.due("chance(0, 4)", x.chance(0, 4), -2);
        CHECK.due("chance(0, -1)", x.chance(0, -1), -2);
    }

    private static void waysAreNamed() {
        LearningAdvisor x = new LearningAdvisor();
        for (int way = 0; way < 4; way++) {
            CHECK.due("advise(" + way + ") without items", x.advise(way), -1);
        }
        CHECK.due("advise(4)", x.advise(4), -2);
        CHECK.due("advise(-1)", x.advise(-1), -2);
    }

    private static void reviewTakesTheEarliestDueDay() {
        LearningAdvisor x = Advisors.withItems("90;90;90=0");
        x.addItem(1, 0);
        x.addItem(2, 0);
        x.answer(2, 1);
        x.answer(1, 1);
        CHECK.due("advise(0) before the due day", x.advise(0), -1);
        x.nextDay(1);
        CHECK.due("advise(0) a day before", x.advise(0), -1);
        x.nextDay(1);
        CHECK.due("advise(0), the lower of two", x.advise(0), 1);
        CHECK.due("due(0)", x.due(0), 1);
        CHECK.due("due(1)", x.due(1), 2);
        CHECK.due("due(2)", x.due(2), -1);
        CHECK.due("due(-1)", x.due(-1), -1);
        CHECK.due("due(least)", x.due(Integer.MIN_VALUE), -1);
        x.answer(1, 0);
        CHECK.due("advise(0), not ready or not", x.advise(0), 2);
        x.answer(2, 0);
        CHECK.due("no due skill now", x.due(0), -1);
        x.nextDay(1);
        x.answer(0, 0);
        x.answer(1, 0);
        x.nextDay(1);
        CHECK.due("due(0), the earliest day first", x.due(0), 2);
        CHECK.due("due(1)", x.due(1), 0);
        CHECK.due("due(2)", x.due(2), 1);
        CHECK.due("due(3)", x.due(3), -1);
        CHECK.due("advise(0)", x.advise(0), 2);
    }

    private static void reviewPassesSkillsWithoutOpenItems() {
        LearningAdvisor x = new LearningAdvisor();
        Advisors.read(x, "90;90;90");
        x.addItem(0, 0);
        x.answer(0, 0);
        x.nextDay(1);
        x.addItem(1, 3);
        x.addItem(1, 2);
        x.addItem(1, 2);
        x.answer(1, 0);
        x.nextDay(1);
        CHECK.due("advise(0)", x.advise(0), 0);
        x.answer(0, 1);
        CHECK.due("advise(0), least difficulty, lowest item", x.advise(0), 2);
        x.undo();
        CHECK.due("advise(0), undone", x.advise(0), 0);
    }

    private static void learningTakesTheLeastMastery() {
        LearningAdvisor x = Advisors.withItems("60;60;40;90=0;90=2");
        CHECK.due("advise(1), the lowest of equals", x.advise(1), 0);
        x.answer(4, 0);
        CHECK.due("advise(1), no open items, then the lowest", x.advise(1), 0);
        x.answer(1, 0);
        CHECK.due("advise(1), the one without open items is passed", x.advise(1), 0);
        x.addItem(1, 4);
        x.addItem(1, 1);
        x.addItem(1, 1);
        CHECK.due("advise(1), the least, its easiest item", x.advise(1), 6);
        CHECK.due("explain of the other", Advisors.explained(x, 5), "4:6");
        x.answer(0, 1);
        CHECK.due("skill(0, 5)", x.skill(0, 5), 1);
        x.answer(6, 1);
        x.answer(7, 1);
        x.answer(5, 1);
        CHECK.due("skill 3 is ready now", x.skill(3, 6), 1);
        CHECK.due("advise(1), what has become ready", x.advise(1), 3);
        x.answer(3, 1);
        CHECK.due("advise(1), nothing left", x.advise(1), -1);
        CHECK.due("advise(2), the mastered one too", x.advise(2), 2);
    }

    private static void diagnosisTakesTheGreatestInformation() {
        LearningAdvisor x = new LearningAdvisor();
        Advisors.read(x, "90;90");
        x.addItem(0, 4);
        x.addItem(0, 1);
        x.addItem(1, 0);
        x.addItem(0, 0);
        CHECK.due("advise(2), 1/4 and the lowest", x.advise(2), 2);
        x.answer(2, 1);
        CHECK.due("advise(2)", x.advise(2), 3);
        x.answer(3, 1);
        CHECK.due("advise(2), harder is now nearer to 1/2", x.advise(2), 1);
        x.answer(1, 1);
        CHECK.due("advise(2)", x.advise(2), 0);
        x.answer(0, 1);
        CHECK.due("advise(2), none open", x.advise(2), -1);
    }

    private static void mixedTakesReviewThenLearningThenDiagnosis() {
        LearningAdvisor x = Advisors.withItems("60;60;40");
        x.answer(1, 0);
        x.nextDay(1);
        CHECK.due("advise(3), review", x.advise(3), 1);
        x.answer(1, 0);
        CHECK.due("advise(3), learning", x.advise(3), 0);
        x.answer(0, 1);
        CHECK.due("advise(3), diagnosis", x.advise(3), 2);
        x.answer(2, 1);
        CHECK.due("advise(3), none", x.advise(3), -1);
    }

    private static void pathAnswersRightlyStepByStep() {
        LearningAdvisor x = Advisors.withItems("60;60=0;60=1");
        x.addItem(0, 0);
        for (int item = 0; item < 3; item++) {
            CHECK.due("path(" + item + ")", x.path(item), item);
        }
        CHECK.due("path(3)", x.path(3), -1);
        CHECK.due("path(11)", x.path(11), -1);
        CHECK.due("path(12)", x.path(12), -2);
        CHECK.due("path(-1)", x.path(-1), -2);
        CHECK.due("nothing changed", x.count(3) + x.count(7) + x.count(8) + x.count(10), 0);
        x.answer(0, 1);
        CHECK.due("path(0)", x.path(0), 1);
        CHECK.due("path(1)", x.path(1), 2);
        CHECK.due("path(2)", x.path(2), -1);
        LearningAdvisor y = new LearningAdvisor();
        Advisors.read(y, "99");
        for (int item = 0; item < 12; item++) {
            y.addItem(0, 0);
        }
        CHECK.due("path(11), twelve items", y.path(11), 11);
    }

    private static void whatIfChangesNothing() {
        LearningAdvisor x = Advisors.withItems("60;60=0");
        CHECK.due("whatIf(1, 1, 1, 0)", x.whatIf(1, 1, 1, 0), 2);
        CHECK.due("whatIf(1, 1, 1, 1)", x.whatIf(1, 1, 1, 1), 3);
        CHECK.due("whatIf(1, 1, 0, 0)", x.whatIf(1, 1, 0, 0), 5);
        CHECK.due("whatIf(1, 1, 0, 1)", x.whatIf(1, 1, 0, 1), 9);
        CHECK.due("whatIf(1, 0, 0, 0)", x.whatIf(1, 0, 0, 0), 4);
        CHECK.due("whatIf(1, 0, 0, 1)", x.whatIf(1, 0, 0, 1), 9);
        CHECK.due("whatIf(0, 1, 1, 1)", x.whatIf(0, 1, 1, 1), 2);
        CHECK.due("nothing changed", x.count(3) + x.count(4) + x.count(7) + x.count(8) + x.count(10), 0);
        CHECK.due("whatIf(2, 9, 0, 0)", x.whatIf(2, 9, 0, 0), -1);
        CHECK.due("whatIf(0, 9, 2, 0)", x.whatIf(0, 9, 2, 0), -1);
        CHECK.due("whatIf(-1, 1, 0, 0)", x.whatIf(-1, 1, 0, 0), -1);
        CHECK.due("whatIf(0, 1, -1, 0)", x.whatIf(0, 1, -1, 0), -1);
        CHECK.due("whatIf(0, 2, 0, 0)", x.whatIf(0, 2, 0, 0), -2);
        CHECK.due("whatIf(0, 1, 0, 2)", x.whatIf(0, 1, 0, 2), -2);
        CHECK.due("whatIf(0, -1, 0, 0)", x.whatIf(0, -1, 0, 0), -2);
        CHECK.due("whatIf(0, 1, 0, -1)", x.whatIf(0, 1, 0, -1), -2);
        x.answer(0, 1);
        CHECK.due("whatIf of an answered item", x.whatIf(0, 1, 1, 0), -4);
        CHECK.due("whatIf(0, 2, 0, 0), the first error", x.whatIf(0, 2, 0, 0), -2);
    }

    private static void plansAnswerWhatIsAdvised() {
        LearningAdvisor x = Advisors.withItems("60;60=0");
        CHECK.due("plan(1, 1, 0)", x.plan(1, 1, 0), 1);
        CHECK.due("plan(1, 1, 1)", x.plan(1, 1, 1), 16);
        CHECK.due("plan(1, 1, 2)", x.plan(1, 1, 2), 1);
        CHECK.due("plan(1, 12, 0)", x.plan(1, 12, 0), 2);
        CHECK.due("plan(1, 12, 1)", x.plan(1, 12, 1), 36);
        CHECK.due("plan(2, 12, 0)", x.plan(2, 12, 0), 4);
        CHECK.due("plan(2, 12, 1), a day without decay", x.plan(2, 12, 1), 72);
        CHECK.due("plan(30, 12, 0)", x.plan(30, 12, 0), 60);
        CHECK.due("plan(30, 1, 0)", x.plan(30, 1, 0), 30);
        CHECK.due("nothing changed", x.count(2) + x.count(7) + x.count(8) + x.count(10), 0);
        x.answer(0, 0);
        CHECK.due("plan(1, 12, 0), one is not open", x.plan(1, 12, 0), 1);
        CHECK.due("plan(2, 12, 0)", x.plan(2, 12, 0), 3);
        int[][] wrong = {{0, 1, 0}, {31, 1, 0}, {1, 0, 0}, {1, 13, 0}, {1, 1, -1}, {1, 1, 3}};
        for (int[] w : wrong) {
            CHECK.due("plan with a wrong argument", x.plan(w[0], w[1], w[2]), -2);
        }
    }

    private static void plansDecayAndGoBeyondTheLastDay() {
        LearningAdvisor x = Advisors.withItems("40;60");
        x.answer(0, 0);
        x.answer(1, 0);
        CHECK.due("plan(1, 1, 1), the last day is not increased", x.plan(1, 1, 1), 32);
        CHECK.due("plan(2, 1, 1)", x.plan(2, 1, 1), 44);
        LearningAdvisor y = Advisors.withItems("60");
        for (int i = 0; i < 166; i++) {
            y.nextDay(60);
        }
        y.nextDay(39);
        CHECK.due("plan(30, 1, 0) on the last day", y.plan(30, 1, 0), 30);
        CHECK.due("count(2)", y.count(2), 9999);
        y.answer(0, 1);
        CHECK.due("lasting(0) on the last day", y.lasting(0), 8);
    }

    private static void lastingCountsDays() {
        LearningAdvisor x = Advisors.withItems("60;50;60;40;45");
        CHECK.due("lasting(0), not mastered", x.lasting(0), -1);
        CHECK.due("lasting(1), always", x.lasting(1), 200);
        x.answer(0, 1);
        // 16 on the first day, then 14, 13, 12, 11, 10, 9, and 8 on the eighth: 60 percent wants 8 or more.
        CHECK.due("lasting(0)", x.lasting(0), 8);
        x.answer(3, 0);
        CHECK.due("lasting(3), not mastered", x.lasting(3), -1);
        CHECK.due("lasting(5)", x.lasting(5), -1);
        CHECK.due("lasting(-1)", x.lasting(-1), -1);
        CHECK.due("nothing changed", x.count(2), 0);
        LearningAdvisor y = Advisors.withItems("66");
        y.answer(0, 1);
        y.nextDay(1);
        CHECK.due("lasting(0), lost on the next day", y.lasting(0), 0);
    }

    public static void main(String[] args) {
        chancesAreInLowestTerms();
        waysAreNamed();
        reviewTakesTheEarliestDueDay();
        reviewPassesSkillsWithoutOpenItems();
        learningTakesTheLeastMastery();
        diagnosisTakesTheGreatestInformation();
        mixedTakesReviewThenLearningThenDiagnosis();
        pathAnswersRightlyStepByStep();
        whatIfChangesNothing();
        plansAnswerWhatIsAdvised();
        plansDecayAndGoBeyondTheLastDay();
        lastingCountsDays();
        CHECK.end();
    }
}
