/**
 * The bounds of chances, advice, reasons and of what would be: promises 10 to 15 and 17 to 19, and the
 * sentences of 'Chances', 'Advice' and 'Reasons'.
 */
public final class AdviceBoundsTest {
    private static final Check CHECK = new Check();
    private static final String TEN_OF_60 = "60;60;60;60;60;60;60;60;60;60";
    private static final int[] FAR = {Integer.MIN_VALUE, -1000, 1000, Integer.MAX_VALUE};

    private static void chanceIs(LearningAdvisor x, int item, int... parts) {
        for (int what = 0; what < 4; what++) {
            CHECK.due("chance(" + item + ", " + what + ")", x.chance(item, what), parts[what]);
        }
    }

    /** 16 / 32 and 16 / 96 without evidence, 496 / 512 and 496 / 576 with all for it, 16 / 576 with all against. */
    private static void chancesReachFromTheLeastToTheGreatestEvidence() {
        LearningAdvisor x = new LearningAdvisor();
        CHECK.due("chance(0, 0) of no item", x.chance(0, 0), -1);
        x.addItem(0, 0);
        x.addItem(0, 4);
        chanceIs(x, 0, 1, 2, 1, 4);
        chanceIs(x, 1, 1, 6, 5, 36);
        Advisors.addItems(x, 10, 0);
        Advisors.answerTimes(x, 1, 31);
        chanceIs(x, 0, 31, 32, 31, 1024);
        chanceIs(x, 1, 31, 36, 155, 1296);
        LearningAdvisor y = new LearningAdvisor();
        y.addItem(0, 4);
        Advisors.addItems(y, 11, 0);
        Advisors.answerTimes(y, 0, 36);
        chanceIs(y, 0, 1, 36, 35, 1296);
        chanceIs(y, 1, 1, 32, 31, 1024);
    }

    private static void anItemIsOpenUnlessItWasAnsweredOnThisDay() {
        LearningAdvisor x = Advisors.withItems("99");
        CHECK.due("never answered", x.advise(2), 0);
        x.answer(0, 1);
        CHECK.due("answered on this day", x.advise(2), -1);
        x.undo();
        CHECK.due("undone", x.advise(2), 0);
        x.answer(0, 1);
        x.nextDay(1);
        CHECK.due("answered on the day before", x.advise(2), 0);
        x.answer(0, 0);
        x.nextDay(60);
        x.undo();
        CHECK.due("answered on this day, to which undo came back", x.advise(2), -1);
    }

    private static void withoutItemsNothingIsAdvised() {
        LearningAdvisor x = new LearningAdvisor();
        for (int way = 0; way < 4; way++) {
            CHECK.due("advise(" + way + ")", x.advise(way), -1);
        }
        CHECK.due("path(0)", x.path(0), -1);
        CHECK.due("due(0)", x.due(0), -1);
        CHECK.due("plan(30, 12, 0)", x.plan(30, 12, 0), 0);
        CHECK.due("plan(30, 12, 1)", x.plan(30, 12, 1), 0);
        CHECK.due("plan(30, 12, 2)", x.plan(30, 12, 2), 0);
        CHECK.due("explain(0)", x.explain(0), -1);
    }

    private static void waysAreFrom0To3() {
        LearningAdvisor x = Advisors.withItems("99");
        CHECK.due("advise(0)", x.advise(0), -1);
        CHECK.due("advise(1)", x.advise(1), 0);
        CHECK.due("advise(2)", x.advise(2), 0);
        CHECK.due("advise(3)", x.advise(3), 0);
        CHECK.due("advise(-1)", x.advise(-1), -2);
        CHECK.due("advise(4)", x.advise(4), -2);
        for (int way : FAR) {
            CHECK.due("advise(" + way + ")", x.advise(way), -2);
        }
        CHECK.due("advise(4) without items", new LearningAdvisor().advise(4), -2);
    }

    private static void aSkillIsDueFromItsDueDayOn() {
        LearningAdvisor x = Advisors.of("60;99");
        Advisors.addItems(x, 2, 0);
        x.answer(0, 1);
        for (int day = 0; day < 5; day++) {
            CHECK.due("due(0) on day " + day, x.due(0), day < 2 ? -1 : 0);
            CHECK.due("due(1) on day " + day, x.due(1), -1);
            CHECK.due("advise(0) on day " + day, x.advise(0), day < 2 ? -1 : 0);
            CHECK.due("advise(3) on day " + day, x.advise(3), day == 0 ? 1 : 0);
            x.nextDay(1);
        }
    }

    private static void allTenSkillsCanBeDue() {
        LearningAdvisor x = Advisors.withItems(TEN_OF_60);
        Advisors.answer(x, 0, 4, 1);
        Advisors.answer(x, 5, 9, 0);
        CHECK.due("due(0)", x.due(0), -1);
        x.nextDay(1);
        for (int index = 0; index < 10; index++) {
            CHECK.due("due(" + index + ")", x.due(index), index < 5 ? index + 5 : -1);
        }
        x.nextDay(1);
        for (int index = 0; index < 10; index++) {
            CHECK.due("due(" + index + ")", x.due(index), index < 5 ? index + 5 : index - 5);
        }
        CHECK.due("due(10)", x.due(10), -1);
        CHECK.due("due(-1)", x.due(-1), -1);
        for (int index : FAR) {
            CHECK.due("due(" + index + ")", x.due(index), -1);
        }
        CHECK.due("advise(0)", x.advise(0), 5);
    }

    private static void reviewTakesTheEarliestThenTheLowest() {
        LearningAdvisor x = Advisors.withItems("60;60;60=0");
        x.answer(2, 0);
        x.nextDay(1);
        x.answer(1, 0);
        x.answer(0, 0);
        x.nextDay(1);
        CHECK.due("the earliest, though not ready", x.advise(0), 2);
        x.answer(2, 1);
        CHECK.due("the lowest of two", x.advise(0), 0);
        x.answer(0, 1);
        CHECK.due("the last", x.advise(0), 1);
        x.answer(1, 1);
        CHECK.due("none", x.advise(0), -1);
    }

    private static void reviewTakesTheEasiestItemThenTheLowest() {
        LearningAdvisor x = Advisors.of("60;60");
        x.addItem(0, 0);
        x.addItem(1, 4);
        x.addItem(1, 3);
        x.addItem(1, 3);
        x.answer(1, 0);
        x.nextDay(1);
        CHECK.due("the easiest and lowest of the due skill", x.advise(0), 2);
        x.addItem(1, 2);
        CHECK.due("an easier one", x.advise(0), 4);
        x.addItem(1, 2);
        CHECK.due("an equal one", x.advise(0), 4);
    }

    /** An answer makes the due day later than the present one, so a skill that is due has its items open. */
    private static void anAnsweredSkillIsNotDueOnThisDay() {
        LearningAdvisor x = Advisors.withItems("60;60");
        Advisors.answer(x, 0, 1, 0);
        x.nextDay(9);
        CHECK.due("both are due", x.due(1), 1);
        CHECK.due("advise(0)", x.advise(0), 0);
        x.answer(0, 0);
        CHECK.due("one is due", x.due(0), 1);
        CHECK.due("advise(0)", x.advise(0), 1);
        x.answer(1, 1);
        CHECK.due("none is due", x.due(0), -1);
        CHECK.due("advise(0)", x.advise(0), -1);
        x.undo();
        CHECK.due("one is due again", x.due(0), 1);
        CHECK.due("advise(0)", x.advise(0), 1);
    }

    private static void learningPassesOverWhatIsJustMastered() {
        LearningAdvisor x = Advisors.withItems("50;51;50=1;50=0");
        CHECK.due("the one that is not mastered", x.advise(1), 1);
        CHECK.due("explain(0)", Advisors.explained(x, 0), "2:0");
        CHECK.due("explain(1)", Advisors.explained(x, 1), "5:1");
        x.answer(0, 0);
        CHECK.due("the other has no open item", x.advise(1), 1);
        x.nextDay(1);
        CHECK.due("the other has less mastery", x.advise(1), 0);
    }

    private static void learningPassesOverWhatIsNotReady() {
        LearningAdvisor x = Advisors.withItems("60;60=0");
        x.answer(1, 0);
        x.nextDay(1);
        CHECK.due("less mastery, but not ready", x.advise(1), 0);
        x.answer(0, 1);
        CHECK.due("ready now", x.advise(1), 1);
        CHECK.due("advise(0) on day 1", x.advise(0), 1);
    }

    private static void learningPassesOverSkillsWithoutOpenItems() {
        LearningAdvisor x = Advisors.of("60;60");
        x.addItem(0, 0);
        x.addItem(1, 4);
        x.addItem(1, 3);
        x.addItem(1, 3);
        x.answer(0, 0);
        CHECK.due("the least mastery has no open item", x.advise(1), 2);
        x.answer(2, 0);
        CHECK.due("the next easiest", x.advise(1), 3);
        x.answer(3, 0);
        CHECK.due("the last", x.advise(1), 1);
        x.answer(1, 0);
        CHECK.due("none", x.advise(1), -1);
    }

    /** Answers on three days, so that skill a has 11 / 19, and skill b 4 / 7, which is less by 1 / 133. */
    private static LearningAdvisor withNearMasteries(int a, int b) {
        LearningAdvisor x = Advisors.of("99;99");
        Advisors.addItems(x, 6, a);
        Advisors.addItems(x, 6, b);
        Advisors.answer(x, 0, 2, 0);
        Advisors.answer(x, 3, 5, 1);
        x.nextDay(1);
        Advisors.answer(x, 0, 1, 0);
        Advisors.answer(x, 2, 5, 1);
        x.nextDay(1);
        Advisors.answer(x, 0, 1, 0);
        Advisors.answer(x, 2, 4, 1);
        Advisors.answer(x, 6, 7, 0);
        Advisors.answer(x, 8, 10, 1);
        CHECK.due("mastery(a, 0)", x.mastery(a, 0), 11);
        CHECK.due("mastery(a, 1)", x.mastery(a, 1), 19);
        CHECK.due("mastery(b, 0)", x.mastery(b, 0), 4);
        CHECK.due("mastery(b, 1)", x.mastery(b, 1), 7);
        return x;
    }

    private static void masteriesAreComparedAsExactFractions() {
        CHECK.due("4 / 7 before 11 / 19", withNearMasteries(0, 1).advise(1), 11);
        CHECK.due("4 / 7 before 11 / 19", withNearMasteries(1, 0).advise(1), 11);
    }

    /** 16 / 32 and 32 / 64 are the same mastery. */
    private static void ofEqualMasteriesTheLowestSkillIsTaken() {
        for (int practised = 0; practised < 2; practised++) {
            LearningAdvisor x = Advisors.of("60;60");
            x.addItem(1, 0);
            x.addItem(0, 4);
            Advisors.addItems(x, 2, practised);
            x.answer(2, 1);
            x.answer(3, 0);
            CHECK.due("item of skill 0", x.advise(1), 1);
        }
    }

    /** 1/3 and 2/3 have the same information, and so have two items that nobody answered. */
    private static void ofEqualInformationTheLowestItemIsTaken() {
        LearningAdvisor x = Advisors.of("60;60");
        x.addItem(0, 1);
        x.addItem(1, 0);
        x.addItem(1, 0);
        x.answer(1, 1);
        CHECK.due("1/3 before 2/3", x.advise(2), 0);
        LearningAdvisor y = Advisors.of("60;60");
        y.addItem(1, 0);
        y.addItem(1, 0);
        y.addItem(0, 1);
        y.answer(0, 1);
        CHECK.due("2/3 before 1/3", y.advise(2), 1);
        CHECK.due("twelve equal ones", Advisors.withTwelve("60", 0).advise(2), 0);
    }

    /** The denominators 512 to 576 have squares whose products are greater than an int. */
    private static void informationIsComparedAsExactFractions() {
        LearningAdvisor x = new LearningAdvisor();
        for (int item = 0; item < 12; item++) {
            x.addItem(0, item < 4 ? item : item == 11 ? 4 : 0);
        }
        Advisors.answerTimes(x, 1, 36);
        x.nextDay(1);
        int[] order = {11, 3, 2, 1, 0, 4};
        for (int item : order) {
            CHECK.due("advise(2)", x.advise(2), item);
            x.answer(item, 1);
        }
    }

    /** Each way would advise another item: skill 2 is due, skill 1 is to learn, skill 0 has item 0. */
    private static void mixedFallsFromReviewToLearningToDiagnosis() {
        LearningAdvisor x = Advisors.withItems("50;60;20");
        CHECK.due("nothing due: learning", x.advise(3), 1);
        x.answer(2, 0);
        x.nextDay(1);
        CHECK.due("review", x.advise(3), 2);
        CHECK.due("advise(0)", x.advise(0), 2);
        CHECK.due("advise(1)", x.advise(1), 1);
        CHECK.due("advise(2)", x.advise(2), 0);
        x.answer(2, 1);
        CHECK.due("nothing due: learning", x.advise(3), 1);
        x.answer(1, 1);
        CHECK.due("nothing to learn: diagnosis", x.advise(3), 0);
        x.answer(0, 1);
        CHECK.due("nothing open", x.advise(3), -1);
    }

    private static void explains(LearningAdvisor x, int item, String want) {
        CHECK.due("explain(" + item + ")", Advisors.explained(x, item), want);
    }

    private static void theFirstReasonThatAppliesIsLevel0() {
        LearningAdvisor x = Advisors.withItems("51;50=0;50");
        explains(x, 1, "2:1");
        x.answer(1, 0);
        explains(x, 1, "1:0");
        x.nextDay(1);
        explains(x, 1, "3:1 6:0");
        explains(x, 0, "5:0");
        x.answer(0, 1);
        explains(x, 0, "1:1");
        explains(x, 1, "5:1");
        explains(x, 2, "2:2");
        x.addItem(1, 0);
        explains(x, 3, "4:1");
    }

    private static void reasonsTellTheDay() {
        LearningAdvisor x = Advisors.withItems("60");
        x.answer(0, 1);
        explains(x, 0, "1:0");
        Advisors.goTo(x, 9999);
        x.answer(0, 1);
        explains(x, 0, "1:9999");
        x.undo();
        explains(x, 0, "5:0");
    }

    private static void explanationsHave1To10Levels() {
        LearningAdvisor x = Advisors.withItems("60;60=0;60=1;60=2;60=3;60=4;60=5;60=6;60=7;60=8");
        CHECK.due("explanation(0, 0) at first", x.explanation(0, 0), -1);
        CHECK.due("explain(9)", x.explain(9), 10);
        CHECK.due("explanation(9, 0)", x.explanation(9, 0), 6);
        CHECK.due("explanation(9, 1)", x.explanation(9, 1), 0);
        CHECK.due("explanation(10, 0)", x.explanation(10, 0), -1);
        CHECK.due("explanation(-1, 0)", x.explanation(-1, 0), -1);
        explains(x, 9, "3:9 6:8 6:7 6:6 6:5 6:4 6:3 6:2 6:1 6:0");
        explains(x, 2, "3:2 6:1 6:0");
        CHECK.due("explanation(3, 0) of a longer one before", x.explanation(3, 0), -1);
        CHECK.due("explain(0)", x.explain(0), 1);
        CHECK.due("explanation(0, 0)", x.explanation(0, 0), 5);
        CHECK.due("explanation(0, 1)", x.explanation(0, 1), 0);
        CHECK.due("explanation(1, 0)", x.explanation(1, 0), -1);
        CHECK.due("explanation(1, 2) of several errors", x.explanation(1, 2), -1);
        for (int level : FAR) {
            CHECK.due("explanation(" + level + ", 0)", x.explanation(level, 0), -1);
        }
    }

    private static void theChainOfCausesEndsAtASkillThatIsReady() {
        LearningAdvisor x = Advisors.withItems("60;60=0;60=1;60=2");
        explains(x, 3, "3:3 6:2 6:1 6:0");
        x.answer(0, 1);
        explains(x, 3, "3:3 6:2 6:1");
        x.answer(1, 1);
        explains(x, 3, "3:3 6:2");
        x.answer(2, 1);
        explains(x, 3, "5:3");
    }

    private static void theFirstPartThatIsNotFulfilledBlocks() {
        explains(Advisors.withItems("50;60;60;60=0&1&2"), 3, "3:3 6:1");
        explains(Advisors.withItems("50;50;60;60=0&1&2"), 3, "3:3 6:2");
        explains(Advisors.withItems("60;60;60;60=2&1&0"), 3, "3:3 6:2");
        explains(Advisors.withItems("60;60;60;60=2|1|0"), 3, "3:3 6:2");
        explains(Advisors.withItems("50;60;60;60=0&1|2"), 3, "3:3 6:1");
        explains(Advisors.withItems("50;60;60;60=0&(2|1)"), 3, "3:3 6:2");
        explains(Advisors.withItems("50;60;60;60=(0|1)&2"), 3, "3:3 6:2");
        explains(Advisors.withItems("50;60;60;60=0&(0&1|2)&2"), 3, "3:3 6:1");
    }

    private static void anExplanationOfNoItemLeavesTheOneBefore() {
        LearningAdvisor x = Advisors.withItems("60;60=0");
        x.explain(1);
        int[] none = {-1, 2, Integer.MIN_VALUE, Integer.MAX_VALUE};
        for (int item : none) {
            CHECK.due("explain(" + item + ")", x.explain(item), -1);
            CHECK.due("explanation(1, 0)", x.explanation(1, 0), 6);
            CHECK.due("explanation(1, 1)", x.explanation(1, 1), 0);
            CHECK.due("explanation(2, 0)", x.explanation(2, 0), -1);
        }
    }

    private static void pathsAreAskedFrom0To11() {
        LearningAdvisor x = Advisors.withTwelve("99", 0);
        for (int index = 0; index < 12; index++) {
            CHECK.due("path(" + index + ")", x.path(index), index);
        }
        CHECK.due("path(-1)", x.path(-1), -2);
        CHECK.due("path(12)", x.path(12), -2);
        for (int index : FAR) {
            CHECK.due("path(" + index + ")", x.path(index), -2);
        }
        x.answer(3, 1);
        CHECK.due("path(3), passing over an answered one", x.path(3), 4);
        CHECK.due("path(10), the last", x.path(10), 11);
        CHECK.due("path(11), fewer", x.path(11), -1);
        LearningAdvisor y = Advisors.of("99");
        Advisors.addItems(y, 11, 0);
        CHECK.due("path(10) of eleven", y.path(10), 10);
        CHECK.due("path(11) of eleven", y.path(11), -1);
    }

    /** Two right answers make 48 / 64, which is 75 percent, and three 64 / 80. */
    private static void aPathEndsWhenAllIsMastered() {
        LearningAdvisor x = Advisors.withTwelve("75", 0);
        CHECK.due("path(1) to 75", x.path(1), 1);
        CHECK.due("path(2) to 75", x.path(2), -1);
        LearningAdvisor y = Advisors.withTwelve("76", 0);
        CHECK.due("path(2) to 76", y.path(2), 2);
        CHECK.due("path(3) to 76", y.path(3), -1);
        CHECK.due("path(0) to 50", Advisors.withTwelve("50", 0).path(0), -1);
        LearningAdvisor z = Advisors.withItems("60;60;60=1;60=0&2");
        int[] path = {0, 1, 2, 3, -1};
        for (int index = 0; index < path.length; index++) {
            CHECK.due("path(" + index + ")", z.path(index), path[index]);
        }
    }

    /** Skill 0 is due and mastered: review would take it, but a path is for learning only. */
    private static void aPathIsForLearningOnly() {
        LearningAdvisor x = Advisors.withItems("40;60;60=1");
        x.answer(0, 1);
        x.nextDay(2);
        CHECK.due("advise(3)", x.advise(3), 0);
        int[] path = {1, 2, -1};
        for (int index = 0; index < path.length; index++) {
            CHECK.due("path(" + index + ")", x.path(index), path[index]);
        }
    }

    private static void whatIfIsCutOffAsAnAnswerIs() {
        LearningAdvisor x = Advisors.withTwelve("50;50=0", 1);
        Advisors.answerTimes(x, 1, 30);
        x.nextDay(1);
        CHECK.due("whatIf right, at 480", x.whatIf(0, 1, 1, 0), 31);
        CHECK.due("whatIf right, at 480", x.whatIf(0, 1, 1, 1), 32);
        CHECK.due("whatIf wrong, 496 / 528", x.whatIf(0, 0, 1, 0), 31);
        CHECK.due("whatIf wrong, 496 / 528", x.whatIf(0, 0, 1, 1), 33);
        CHECK.due("whatIf right, required: 140 / 156", x.whatIf(0, 1, 0, 0), 35);
        CHECK.due("whatIf right, required: 140 / 156", x.whatIf(0, 1, 0, 1), 39);
        CHECK.due("whatIf wrong, required and mastered: 136 / 152", x.whatIf(0, 0, 0, 0), 17);
        CHECK.due("whatIf wrong, required and mastered: 136 / 152", x.whatIf(0, 0, 0, 1), 19);
        CHECK.due("account(1, 2) unchanged", x.account(1, 2), 0);
        CHECK.due("evidence unchanged", x.count(10), 480 + 120);
    }

    private static void whatIfHasItsErrorsInTheirOrder() {
        LearningAdvisor x = Advisors.withItems("60;60");
        x.answer(1, 1);
        CHECK.due("whatIf(1, 0, 0, 0)", x.whatIf(1, 0, 0, 0), -4);
        CHECK.due("whatIf(1, 1, 1, 1)", x.whatIf(1, 1, 1, 1), -4);
        CHECK.due("whatIf(1, 2, 0, 0)", x.whatIf(1, 2, 0, 0), -2);
        CHECK.due("whatIf(1, 1, 0, 2)", x.whatIf(1, 1, 0, 2), -2);
        CHECK.due("whatIf(1, 1, 2, 0)", x.whatIf(1, 1, 2, 0), -1);
        CHECK.due("whatIf(2, 2, 0, 0)", x.whatIf(2, 2, 0, 0), -1);
        CHECK.due("whatIf(0, 2, 2, 2)", x.whatIf(0, 2, 2, 2), -1);
        x.nextDay(1);
        CHECK.due("whatIf(1, 1, 0, 0) on the next day", x.whatIf(1, 1, 0, 0), 1);
    }

    private static void plansHave1To30Days() {
        LearningAdvisor x = Advisors.withTwelve("99", 0);
        CHECK.due("plan(1, 1, 0)", x.plan(1, 1, 0), 1);
        CHECK.due("plan(30, 1, 0)", x.plan(30, 1, 0), 30);
        CHECK.due("plan(29, 12, 0)", x.plan(29, 12, 0), 29 * 12);
        CHECK.due("plan(30, 12, 0)", x.plan(30, 12, 0), 30 * 12);
        CHECK.due("plan(30, 12, 1)", x.plan(30, 12, 1), 480);
        CHECK.due("plan(0, 1, 0)", x.plan(0, 1, 0), -2);
        CHECK.due("plan(31, 1, 0)", x.plan(31, 1, 0), -2);
        for (int days : FAR) {
            CHECK.due("plan(" + days + ", 1, 0)", x.plan(days, 1, 0), -2);
        }
    }

    private static void plansHave1To12AnswersADay() {
        LearningAdvisor x = Advisors.withTwelve("99", 0);
        for (int answers = 1; answers <= 12; answers++) {
            CHECK.due("plan(1, " + answers + ", 0)", x.plan(1, answers, 0), answers);
            CHECK.due("plan(3, " + answers + ", 0)", x.plan(3, answers, 0), 3 * answers);
            CHECK.due("plan(1, " + answers + ", 1)", x.plan(1, answers, 1), 16 * answers);
        }
        CHECK.due("plan(1, 0, 0)", x.plan(1, 0, 0), -2);
        CHECK.due("plan(1, 13, 0)", x.plan(1, 13, 0), -2);
        for (int answers : FAR) {
            CHECK.due("plan(1, " + answers + ", 0)", x.plan(1, answers, 0), -2);
        }
    }

    private static void plansTellThreeNumbers() {
        LearningAdvisor x = Advisors.withItems("60;50;70");
        CHECK.due("plan(1, 1, 0)", x.plan(1, 1, 0), 1);
        CHECK.due("plan(1, 1, 1)", x.plan(1, 1, 1), 16);
        CHECK.due("plan(1, 1, 2)", x.plan(1, 1, 2), 2);
        CHECK.due("plan(1, 12, 2), 2/3 of 70", x.plan(1, 12, 2), 2);
        CHECK.due("plan(2, 12, 2), 3/4 of 70", x.plan(2, 12, 2), 3);
        CHECK.due("plan(1, 1, -1)", x.plan(1, 1, -1), -2);
        CHECK.due("plan(1, 1, 3)", x.plan(1, 1, 3), -2);
        for (int what : FAR) {
            CHECK.due("plan(1, 1, " + what + ")", x.plan(1, 1, what), -2);
        }
    }

    private static void aPlanPassesOverWhatWasAnsweredOnThisDay() {
        LearningAdvisor x = Advisors.withItems("60;60");
        x.answer(0, 1);
        CHECK.due("plan(1, 12, 0), one", x.plan(1, 12, 0), 1);
        CHECK.due("plan(2, 12, 0)", x.plan(2, 12, 0), 3);
        x.answer(1, 1);
        CHECK.due("plan(1, 12, 0), none", x.plan(1, 12, 0), 0);
        CHECK.due("plan(2, 12, 0)", x.plan(2, 12, 0), 2);
    }

    /** 16 against it, of which an eighth is lost between two days, but not after the last one. */
    private static void theDayIsIncreasedBetweenTwoDaysOfAPlan() {
        LearningAdvisor x = Advisors.withItems("60");
        x.answer(0, 0);
        CHECK.due("plan(1, 1, 1)", x.plan(1, 1, 1), 16);
        CHECK.due("plan(2, 1, 1)", x.plan(2, 1, 1), 14 + 16);
        CHECK.due("plan(3, 1, 1), the interval is 2 then", x.plan(3, 1, 1), 14 + 32);
        CHECK.due("the day does not change", x.count(2), 0);
    }

    private static void plansAndLastingGoBeyondDay9999() {
        LearningAdvisor x = Advisors.withItems("50;60");
        Advisors.goTo(x, 9999);
        CHECK.due("plan(30, 12, 0)", x.plan(30, 12, 0), 60);
        CHECK.due("lasting(0)", x.lasting(0), 200);
        x.answer(1, 1);
        CHECK.due("lasting(1)", x.lasting(1), 8);
        CHECK.due("plan(2, 12, 0)", x.plan(2, 12, 0), 3);
        CHECK.due("the day does not change", x.count(2), 9999);
        CHECK.due("nextDay(1)", x.nextDay(1), -3);
    }

    /** 16 on the first day, then 14, 13, 12, 11, 10, 9, 8 and 7 for ever, which is 23 / 39. */
    private static void lastingIsFrom0To200() {
        int[] marks = {66, 65, 64, 63, 62, 61, 60, 59, 58, 1};
        int[] days = {1, 2, 3, 4, 5, 6, 8, 8, 200, 200};
        for (int i = 0; i < marks.length; i++) {
            LearningAdvisor x = Advisors.withItems("" + marks[i]);
            x.answer(0, 1);
            CHECK.due("lasting(0), pass mark " + marks[i], x.lasting(0), days[i]);
            x.nextDay(1);
            int fewer = days[i] == 200 ? 200 : days[i] - 1;
            CHECK.due("lasting(0) on the next day, pass mark " + marks[i], x.lasting(0), fewer);
        }
        CHECK.due("lasting(0), never practised", Advisors.of("50").lasting(0), 200);
        CHECK.due("lasting(0), not mastered", Advisors.of("51").lasting(0), -1);
        int[] none = {-1, 1, 10, Integer.MIN_VALUE, Integer.MAX_VALUE};
        for (int skill : none) {
            CHECK.due("lasting(" + skill + ")", Advisors.of("50").lasting(skill), -1);
        }
    }

    /** On day 14 what is against it has faded to 7, so that 27 / 50 is mastered again: day 10 ends the count. */
    private static void lastingEndsAtTheFirstDayWithoutMastery() {
        LearningAdvisor x = Advisors.withTwelve("54", 0);
        Advisors.answer(x, 0, 2, 1);
        Advisors.answer(x, 3, 4, 0);
        CHECK.due("lasting(0)", x.lasting(0), 9);
        x.nextDay(9);
        CHECK.due("skill(0, 5) on day 9", x.skill(0, 5), 1);
        CHECK.due("lasting(0) on day 9", x.lasting(0), 0);
        x.nextDay(1);
        CHECK.due("skill(0, 5) on day 10", x.skill(0, 5), 0);
        CHECK.due("lasting(0) on day 10", x.lasting(0), -1);
        x.nextDay(4);
        CHECK.due("skill(0, 5) on day 14", x.skill(0, 5), 1);
        CHECK.due("lasting(0) on day 14", x.lasting(0), 0);
    }

    public static void main(String[] args) {
        chancesReachFromTheLeastToTheGreatestEvidence();
        anItemIsOpenUnlessItWasAnsweredOnThisDay();
        withoutItemsNothingIsAdvised();
        waysAreFrom0To3();
        aSkillIsDueFromItsDueDayOn();
        allTenSkillsCanBeDue();
        reviewTakesTheEarliestThenTheLowest();
        reviewTakesTheEasiestItemThenTheLowest();
        anAnsweredSkillIsNotDueOnThisDay();
        learningPassesOverWhatIsJustMastered();
        learningPassesOverWhatIsNotReady();
        learningPassesOverSkillsWithoutOpenItems();
        masteriesAreComparedAsExactFractions();
        ofEqualMasteriesTheLowestSkillIsTaken();
        ofEqualInformationTheLowestItemIsTaken();
        informationIsComparedAsExactFractions();
        mixedFallsFromReviewToLearningToDiagnosis();
        theFirstReasonThatAppliesIsLevel0();
        reasonsTellTheDay();
        explanationsHave1To10Levels();
        theChainOfCausesEndsAtASkillThatIsReady();
        theFirstPartThatIsNotFulfilledBlocks();
        anExplanationOfNoItemLeavesTheOneBefore();
        pathsAreAskedFrom0To11();
        aPathEndsWhenAllIsMastered();
        aPathIsForLearningOnly();
        whatIfIsCutOffAsAnAnswerIs();
        whatIfHasItsErrorsInTheirOrder();
        plansHave1To30Days();
        plansHave1To12AnswersADay();
        plansTellThreeNumbers();
        aPlanPassesOverWhatWasAnsweredOnThisDay();
        theDayIsIncreasedBetweenTwoDaysOfAPlan();
        plansAndLastingGoBeyondDay9999();
        lastingIsFrom0To200();
        lastingEndsAtTheFirstDayWithoutMastery();
        CHECK.end();
    }
}
