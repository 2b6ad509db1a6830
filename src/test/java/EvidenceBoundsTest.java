/**
 * The bounds of items, evidence, mastery, days and decay: promises 1, 4 to 9, 16 and 22, and the sentences of
 * 'Skills', 'Evidence', 'Days and decay' and 'Items'.
 */
public final class EvidenceBoundsTest {
    private static final Check CHECK = new Check();

    private static void skillIs(LearningAdvisor x, int skill, int evidenceFor, int evidenceAgainst) {
        CHECK.due("skill(" + skill + ", 0)", x.skill(skill, 0), evidenceFor);
        CHECK.due("skill(" + skill + ", 1)", x.skill(skill, 1), evidenceAgainst);
    }

    private static void accountIs(LearningAdvisor x, int skill, int... accounts) {
        for (int what = 0; what < 4; what++) {
            CHECK.due("account(" + skill + ", " + what + ")", x.account(skill, what), accounts[what]);
        }
    }

    private static void atFirstThereIsOneSkillWithoutEvidence() {
        LearningAdvisor x = new LearningAdvisor();
        int[] properties = {0, 0, 1, -1, -1, 0, 1, 0, 70};
        for (int what = 0; what < properties.length; what++) {
            CHECK.due("skill(0, " + what + ")", x.skill(0, what), properties[what]);
        }
        CHECK.due("skill(1, 0)", x.skill(1, 0), -1);
        CHECK.due("mastery(0, 0)", x.mastery(0, 0), 1);
        CHECK.due("mastery(0, 1)", x.mastery(0, 1), 2);
        CHECK.due("count(0)", x.count(0), 1);
        CHECK.due("count(1)", x.count(1), 0);
        CHECK.due("the day is at first 0", x.count(2), 0);
        accountIs(x, 0, 0, 0, 0, 0);
    }

    private static void thereAreAtMost12Items() {
        LearningAdvisor x = Advisors.of("50;50");
        CHECK.due("item(0, 0) of none", x.item(0, 0), -1);
        for (int item = 0; item < 12; item++) {
            CHECK.due("count(1)", x.count(1), item);
            CHECK.due("item(" + item + ", 0) before", x.item(item, 0), -1);
            CHECK.due("addItem", x.addItem(item % 2, item % 5), item);
            CHECK.due("item(" + item + ", 0)", x.item(item, 0), item % 2);
            CHECK.due("item(" + item + ", 1)", x.item(item, 1), item % 5);
        }
        CHECK.due("addItem, the thirteenth", x.addItem(1, 4), -3);
        CHECK.due("addItem, the thirteenth again", x.addItem(0, 0), -3);
        CHECK.due("count(1)", x.count(1), 12);
        CHECK.due("item(12, 0)", x.item(12, 0), -1);
        CHECK.due("item(11, 1) unchanged", x.item(11, 1), 1);
        CHECK.due("item(0, 1) unchanged", x.item(0, 1), 0);
        CHECK.due("addItem(2, 5) of several errors", x.addItem(2, 5), -1);
        CHECK.due("addItem(1, 5) of several errors", x.addItem(1, 5), -2);
    }

    private static void evidenceForIsAtMost480() {
        LearningAdvisor x = Advisors.withTwelve("50", 0);
        Advisors.answerTimes(x, 1, 29);
        skillIs(x, 0, 464, 0);
        Advisors.answerTimes(x, 1, 1);
        skillIs(x, 0, 480, 0);
        accountIs(x, 0, 480, 0, 0, 0);
        CHECK.due("mastery(0, 0)", x.mastery(0, 0), 31);
        CHECK.due("mastery(0, 1)", x.mastery(0, 1), 32);
        Advisors.answerTimes(x, 1, 1);
        skillIs(x, 0, 480, 0);
        accountIs(x, 0, 496, 0, 16, 0);
        CHECK.due("count(10)", x.count(10), 480);
    }

    /** The interval is 64 here: on the day before there is no loss, then an eighth of 480. */
    private static void whatWouldBeMoreThan480IsCutOff() {
        LearningAdvisor x = Advisors.withTwelve("50", 0);
        Advisors.answerTimes(x, 1, 30);
        Advisors.goTo(x, 2 + 63);
        skillIs(x, 0, 480, 0);
        Advisors.goTo(x, 2 + 64);
        skillIs(x, 0, 420, 0);
        accountIs(x, 0, 480, 0, 0, 60);
        Advisors.answer(x, 0, 2, 1);
        skillIs(x, 0, 468, 0);
        accountIs(x, 0, 528, 0, 0, 60);
        x.answer(3, 1);
        skillIs(x, 0, 480, 0);
        accountIs(x, 0, 544, 0, 4, 60);
    }

    /** 192 a day, less an eighth overnight: 192, 168 + 192, 315 + 160 = 475 after ten on the third day. */
    private static void evidenceAgainstIsAtMost480() {
        LearningAdvisor x = Advisors.withTwelve("50", 0);
        Advisors.answerTimes(x, 0, 34);
        skillIs(x, 0, 0, 475);
        accountIs(x, 0, 0, 544, 0, 69);
        Advisors.answerTimes(x, 0, 1);
        skillIs(x, 0, 0, 480);
        accountIs(x, 0, 0, 560, 11, 69);
        Advisors.answerTimes(x, 0, 1);
        skillIs(x, 0, 0, 480);
        accountIs(x, 0, 0, 576, 27, 69);
        CHECK.due("mastery(0, 0)", x.mastery(0, 0), 1);
        CHECK.due("mastery(0, 1)", x.mastery(0, 1), 32);
        x.nextDay(1);
        skillIs(x, 0, 0, 420);
    }

    private static void evidenceForARequiredSkillIsAtMost480() {
        LearningAdvisor x = Advisors.withTwelve("50;50=0", 1);
        Advisors.answerTimes(x, 1, 119);
        skillIs(x, 0, 476, 0);
        Advisors.answerTimes(x, 1, 1);
        skillIs(x, 0, 480, 0);
        accountIs(x, 0, 480, 0, 0, 0);
        Advisors.answerTimes(x, 1, 1);
        skillIs(x, 0, 480, 0);
        accountIs(x, 0, 484, 0, 4, 0);
        skillIs(x, 1, 480, 0);
        accountIs(x, 1, 121 * 16, 0, 91 * 16, 0);
    }

    private static void evidenceAgainstARequiredSkillIsAtMost480() {
        LearningAdvisor x = Advisors.withTwelve("51;50=0", 1);
        Advisors.answerTimes(x, 0, 119);
        skillIs(x, 0, 0, 476);
        Advisors.answerTimes(x, 0, 1);
        skillIs(x, 0, 0, 480);
        accountIs(x, 0, 0, 480, 0, 0);
        Advisors.answerTimes(x, 0, 1);
        skillIs(x, 0, 0, 480);
        accountIs(x, 0, 0, 484, 4, 0);
    }

    /** 16, then 14 and 13 by decay; 6 + 23 right answers make 477, which 4 more would make 481. */
    private static void aPartOfSmallEvidenceIsCutOff() {
        LearningAdvisor x = Advisors.of("50;50=0");
        Advisors.addItems(x, 6, 0);
        x.answer(0, 1);
        x.nextDay(3);
        skillIs(x, 0, 13, 0);
        Advisors.answerTimes(x, 1, 6 + 23);
        skillIs(x, 0, 477, 0);
        accountIs(x, 0, 480, 0, 0, 3);
        Advisors.addItems(x, 2, 1);
        x.answer(6, 1);
        skillIs(x, 0, 480, 0);
        accountIs(x, 0, 484, 0, 1, 3);
        x.answer(7, 1);
        accountIs(x, 0, 488, 0, 5, 3);
        x.undo();
        x.undo();
        skillIs(x, 0, 477, 0);
        accountIs(x, 0, 480, 0, 0, 3);
    }

    private static void readingBeginsTheAccountsAgain() {
        LearningAdvisor x = Advisors.withTwelve("50;50=0", 1);
        Advisors.answerTimes(x, 1, 31);
        x.nextDay(60);
        x.nextDay(10);
        Advisors.answerTimes(x, 0, 1);
        CHECK.due("account(1, 2)", x.account(1, 2), 16);
        CHECK.due("account(1, 3)", x.account(1, 3) > 0 ? 1 : 0, 1);
        Advisors.read(x, "50;50=0");
        for (int skill = 0; skill < 2; skill++) {
            accountIs(x, skill, 0, 0, 0, 0);
            skillIs(x, skill, 0, 0);
            CHECK.due("interval", x.skill(skill, 2), 1);
            CHECK.due("due day", x.skill(skill, 3), -1);
            CHECK.due("practice day", x.skill(skill, 4), -1);
        }
        CHECK.due("day", x.count(2), 0);
        CHECK.due("items", x.count(1), 0);
        CHECK.due("right answers", x.count(3), 0);
        CHECK.due("wrong answers", x.count(4), 0);
    }

    /** The last pass mark at which a skill with such answers is mastered, and the first at which it is not. */
    private static void aSkillIsMasteredFromItsPassMarkOn() {
        for (int right = 0; right <= 12; right++) {
            for (int wrong = 0; wrong + right <= 12; wrong++) {
                int reached = 100 * (right + 1) / (right + wrong + 2);
                isMasteredAt(reached, right, wrong, 1);
                isMasteredAt(reached + 1, right, wrong, 0);
            }
        }
    }

    private static void isMasteredAt(int passMark, int right, int wrong, int mastered) {
        LearningAdvisor x = Advisors.withTwelve("" + passMark, 0);
        Advisors.answer(x, 0, right - 1, 1);
        Advisors.answer(x, right, right + wrong - 1, 0);
        String which = right + " right and " + wrong + " wrong answers, pass mark " + passMark;
        CHECK.due(which + ", skill(0, 5)", x.skill(0, 5), mastered);
        CHECK.due(which + ", count(5)", x.count(5), mastered);
    }

    private static void anAnswerTellsWhetherTheSkillIsMasteredThen() {
        LearningAdvisor x = Advisors.withTwelve("66", 0);
        CHECK.due("answer(0, 1), 2/3 of 66", x.answer(0, 1), 1);
        CHECK.due("answer(1, 0), 1/2 of 66", x.answer(1, 0), 0);
        CHECK.due("answer(2, 1), 3/5 of 66", x.answer(2, 1), 0);
        CHECK.due("answer(3, 1), 2/3 of 66", x.answer(3, 1), 1);
        LearningAdvisor y = Advisors.withTwelve("67", 0);
        CHECK.due("answer(0, 1), 2/3 of 67", y.answer(0, 1), 0);
        CHECK.due("answer(1, 1), 3/4 of 67", y.answer(1, 1), 1);
    }

    /** 31/32 is the greatest mastery, and 1/32 the least. */
    private static void theGreatestAndTheLeastMastery() {
        LearningAdvisor x = Advisors.withTwelve("96", 0);
        Advisors.answerTimes(x, 1, 31);
        CHECK.due("31/32 of 96", x.skill(0, 5), 1);
        LearningAdvisor y = Advisors.withTwelve("97", 0);
        Advisors.answerTimes(y, 1, 31);
        CHECK.due("31/32 of 97", y.skill(0, 5), 0);
        LearningAdvisor z = Advisors.withTwelve("3", 0);
        Advisors.answerTimes(z, 0, 36);
        CHECK.due("1/32 of 3", z.skill(0, 5), 1);
        LearningAdvisor v = Advisors.withTwelve("4", 0);
        Advisors.answerTimes(v, 0, 36);
        CHECK.due("1/32 of 4", v.skill(0, 5), 0);
    }

    private static void theIntervalIsAtMost64() {
        LearningAdvisor x = Advisors.withTwelve("50", 0);
        int[] intervals = {2, 4, 8, 16, 32, 64, 64, 64};
        for (int item = 0; item < intervals.length; item++) {
            x.answer(item, 1);
            CHECK.due("interval after " + (item + 1) + " right answers", x.skill(0, 2), intervals[item]);
            CHECK.due("due day", x.skill(0, 3), intervals[item]);
        }
        x.answer(8, 0);
        CHECK.due("interval after a wrong answer", x.skill(0, 2), 1);
        CHECK.due("due day after a wrong answer", x.skill(0, 3), 1);
        x.answer(9, 0);
        CHECK.due("interval after two wrong answers", x.skill(0, 2), 1);
        x.answer(10, 1);
        CHECK.due("interval after a right answer", x.skill(0, 2), 2);
    }

    private static void theDueDayStaysUntilTheNextAnswer() {
        LearningAdvisor x = Advisors.withItems("50;50=0");
        x.nextDay(5);
        x.answer(0, 1);
        CHECK.due("due day", x.skill(0, 3), 7);
        Advisors.goTo(x, 20);
        x.answer(1, 0);
        CHECK.due("due day after an answer to another skill", x.skill(0, 3), 7);
        CHECK.due("practice day after an answer to another skill", x.skill(0, 4), 5);
        CHECK.due("interval after an answer to another skill", x.skill(0, 2), 2);
        x.answer(0, 1);
        CHECK.due("due day after the next answer", x.skill(0, 3), 24);
        CHECK.due("practice day after the next answer", x.skill(0, 4), 20);
    }

    /** On the day before its interval is over a skill loses nothing; then an eighth on each day. */
    private static void evidenceIsLostFromTheIntervalOn() {
        for (int right = 1; right <= 8; right++) {
            int interval = Math.min(64, 1 << right);
            LearningAdvisor x = Advisors.withTwelve("50", 0);
            x.nextDay(3);
            Advisors.answer(x, 0, right - 1, 1);
            int left = 16 * right;
            Advisors.goTo(x, 3 + interval - 1);
            skillIs(x, 0, left, 0);
            accountIs(x, 0, left, 0, 0, 0);
            x.nextDay(1);
            skillIs(x, 0, left - left / 8, 0);
            accountIs(x, 0, left, 0, 0, left / 8);
            left -= left / 8;
            x.nextDay(1);
            skillIs(x, 0, left - left / 8, 0);
        }
        LearningAdvisor y = Advisors.withTwelve("50", 0);
        y.answer(0, 0);
        skillIs(y, 0, 0, 16);
        y.nextDay(1);
        skillIs(y, 0, 0, 14);
    }

    private static void theLossIsCountedFromTheLastPractice() {
        LearningAdvisor x = Advisors.withItems("50");
        x.answer(0, 1);
        x.nextDay(1);
        x.answer(0, 1);
        x.nextDay(3);
        skillIs(x, 0, 32, 0);
        x.nextDay(1);
        skillIs(x, 0, 28, 0);
        x.answer(0, 0);
        skillIs(x, 0, 28, 16);
        x.nextDay(1);
        skillIs(x, 0, 25, 14);
    }

    private static void eachLossIsRoundedDown() {
        LearningAdvisor x = Advisors.withTwelve("50", 0);
        x.answer(0, 1);
        x.answer(1, 0);
        int[] left = {14, 13, 12, 11, 10, 9, 8, 7, 7, 7};
        for (int amount : left) {
            x.nextDay(1);
            skillIs(x, 0, amount, amount);
        }
        accountIs(x, 0, 16, 16, 0, 18);
        x.nextDay(60);
        skillIs(x, 0, 7, 7);
        accountIs(x, 0, 16, 16, 0, 18);
    }

    private static void aSkillThatWasNeverPractisedLosesNothing() {
        LearningAdvisor x = Advisors.withTwelve("50;50=0", 1);
        Advisors.answer(x, 0, 11, 1);
        skillIs(x, 0, 48, 0);
        x.nextDay(60);
        x.nextDay(60);
        skillIs(x, 0, 48, 0);
        accountIs(x, 0, 48, 0, 0, 0);
        CHECK.due("practice day", x.skill(0, 4), -1);
        CHECK.due("due day", x.skill(0, 3), -1);
        CHECK.due("the practised one lost", x.account(1, 3) > 0 ? 1 : 0, 1);
    }

    private static void severalDaysPassOneAfterTheOther() {
        LearningAdvisor x = Advisors.withTwelve("50", 0);
        LearningAdvisor y = Advisors.withTwelve("50", 0);
        Advisors.answer(x, 0, 11, 0);
        Advisors.answer(y, 0, 11, 0);
        x.nextDay(60);
        for (int day = 1; day <= 60; day++) {
            CHECK.due("nextDay(1)", y.nextDay(1), day);
        }
        CHECK.due("evidence", x.skill(0, 1), y.skill(0, 1));
        CHECK.due("evidence after 60 days", x.skill(0, 1), 7);
        accountIs(x, 0, 0, 192, 0, 185);
        accountIs(y, 0, 0, 192, 0, 185);
    }

    private static void daysAreFrom1To60() {
        CHECK.due("nextDay(1)", new LearningAdvisor().nextDay(1), 1);
        CHECK.due("nextDay(60)", new LearningAdvisor().nextDay(60), 60);
        int[] outside = {0, -1, 61, 62, 9999, Integer.MIN_VALUE, Integer.MAX_VALUE};
        for (int days : outside) {
            LearningAdvisor x = new LearningAdvisor();
            CHECK.due("nextDay(" + days + ")", x.nextDay(days), -2);
            CHECK.due("day, entries and changes after it", x.count(2) + x.count(7) + x.count(8), 0);
        }
    }

    private static void theDayIsAtMost9999() {
        LearningAdvisor x = Advisors.withItems("50");
        Advisors.goTo(x, 9939);
        CHECK.due("nextDay(60) to 9999", x.nextDay(60), 9999);
        CHECK.due("nextDay(1) to 10000", x.nextDay(1), -3);
        CHECK.due("nextDay(60)", x.nextDay(60), -3);
        CHECK.due("nextDay(61) of several errors", x.nextDay(61), -2);
        CHECK.due("nextDay(0) of several errors", x.nextDay(0), -2);
        CHECK.due("day", x.count(2), 9999);
        CHECK.due("undo()", x.undo(), 5);
        CHECK.due("day", x.count(2), 9939);
        x.nextDay(1);
        CHECK.due("nextDay(60) to 10000", x.nextDay(60), -3);
        CHECK.due("day after FULL", x.count(2), 9940);
        CHECK.due("nextDay(59) to 9999", x.nextDay(59), 9999);
        x.undo();
        CHECK.due("nextDay(58) to 9998", x.nextDay(58), 9998);
        CHECK.due("nextDay(2) to 10000", x.nextDay(2), -3);
        CHECK.due("nextDay(1) to 9999", x.nextDay(1), 9999);
    }

    private static void aDueDayMayBeLaterThan9999() {
        LearningAdvisor x = Advisors.withTwelve("50", 0);
        Advisors.goTo(x, 9999);
        Advisors.answer(x, 0, 6, 1);
        CHECK.due("due day", x.skill(0, 3), 9999 + 64);
        CHECK.due("practice day", x.skill(0, 4), 9999);
        CHECK.due("item(0, 4)", x.item(0, 4), 9999);
    }

    private static void aRightAnswerHelpsEachRequiredSkillOnce() {
        LearningAdvisor x = Advisors.withItems("50;50=0;50=1&1&(1|1);50=2|0&0");
        x.answer(2, 1);
        skillIs(x, 0, 0, 0);
        skillIs(x, 1, 4, 0);
        skillIs(x, 2, 16, 0);
        skillIs(x, 3, 0, 0);
        x.answer(3, 1);
        skillIs(x, 0, 4, 0);
        skillIs(x, 1, 4, 0);
        skillIs(x, 2, 20, 0);
        skillIs(x, 3, 16, 0);
        CHECK.due("a required skill is not practised", x.skill(0, 4), -1);
        CHECK.due("the interval of a required skill", x.skill(0, 2), 1);
    }

    /** At its pass mark a required skill is mastered and gets nothing; one percent above it is not. */
    private static void aWrongAnswerBlamesRequiredSkillsThatAreNotMastered() {
        LearningAdvisor x = Advisors.withItems("50;51;70=0&1&1&0");
        x.answer(2, 0);
        skillIs(x, 0, 0, 0);
        skillIs(x, 1, 0, 4);
        skillIs(x, 2, 0, 16);
        x.answer(0, 0);
        x.nextDay(1);
        x.answer(2, 0);
        skillIs(x, 0, 0, 14 + 4);
        skillIs(x, 1, 0, 8);
    }

    private static void anItemIsAnsweredOnceADay() {
        LearningAdvisor x = Advisors.withItems("50;50");
        CHECK.due("answer(0, 1)", x.answer(0, 1), 1);
        CHECK.due("answer(0, 1) on the same day", x.answer(0, 1), -4);
        CHECK.due("answer(0, 0) on the same day", x.answer(0, 0), -4);
        CHECK.due("answer(0, 2) of several errors", x.answer(0, 2), -2);
        CHECK.due("answer(2, 2) of several errors", x.answer(2, 2), -1);
        skillIs(x, 0, 16, 0);
        CHECK.due("item(0, 2)", x.item(0, 2), 1);
        CHECK.due("item(0, 3)", x.item(0, 3), 0);
        CHECK.due("interval", x.skill(0, 2), 2);
        CHECK.due("answer(1, 0), another item", x.answer(1, 0), 0);
        x.nextDay(1);
        CHECK.due("answer(0, 0) on the next day", x.answer(0, 0), 1);
        CHECK.due("item(0, 4)", x.item(0, 4), 1);
        CHECK.due("item(1, 4)", x.item(1, 4), 0);
        x.undo();
        CHECK.due("answer(0, 1) after undo", x.answer(0, 1), 1);
        x.undo();
        x.undo();
        CHECK.due("answer(0, 1) on the day before again", x.answer(0, 1), -4);
    }

    private static void rightAndWrongAnswersAreCountedFromTheFirstItemToTheLast() {
        LearningAdvisor x = Advisors.withTwelve("50", 0);
        CHECK.due("count(3), none", x.count(3), 0);
        CHECK.due("count(4), none", x.count(4), 0);
        x.answer(0, 0);
        CHECK.due("count(4), the first item", x.count(4), 1);
        x.answer(11, 1);
        CHECK.due("count(3), the last item", x.count(3), 1);
        x.nextDay(1);
        x.answer(0, 1);
        x.answer(11, 0);
        x.answer(5, 0);
        CHECK.due("count(3)", x.count(3), 2);
        CHECK.due("count(4)", x.count(4), 3);
        x.undo();
        CHECK.due("count(4), undone", x.count(4), 2);
        int[][] answers = {{1, 1, 1}, {0, 0, -1}, {1, 1, 1}};
        int[] items = {0, 5, 11};
        for (int i = 0; i < items.length; i++) {
            CHECK.due("item(" + items[i] + ", 2)", x.item(items[i], 2), answers[i][0]);
            CHECK.due("item(" + items[i] + ", 3)", x.item(items[i], 3), answers[i][1]);
            CHECK.due("item(" + items[i] + ", 4)", x.item(items[i], 4), answers[i][2]);
        }
    }

    private static void answersThatWereUndoneDoNotCount() {
        LearningAdvisor x = Advisors.withItems("50");
        x.answer(0, 1);
        x.nextDay(2);
        x.answer(0, 0);
        CHECK.due("item(0, 3)", x.item(0, 3), 1);
        CHECK.due("item(0, 4)", x.item(0, 4), 2);
        x.undo();
        CHECK.due("item(0, 2) undone", x.item(0, 2), 1);
        CHECK.due("item(0, 3) undone", x.item(0, 3), 0);
        CHECK.due("item(0, 4) undone", x.item(0, 4), 0);
        CHECK.due("count(4) undone", x.count(4), 0);
        accountIs(x, 0, 16, 0, 0, 2);
        x.undo();
        accountIs(x, 0, 16, 0, 0, 0);
        x.undo();
        CHECK.due("item(0, 4), none", x.item(0, 4), -1);
        CHECK.due("count(3), none", x.count(3), 0);
        accountIs(x, 0, 0, 0, 0, 0);
    }

    private static void prerequisitesAreSetsOfBits() {
        LearningAdvisor x = Advisors.of("5;5=0;5=1;5=2;5=3;5=4;5=5;5=6;5=7;5=8&(0|0)&8");
        CHECK.due("skill(0, 7), none", x.skill(0, 7), 0);
        for (int skill = 1; skill < 9; skill++) {
            CHECK.due("skill(" + skill + ", 7)", x.skill(skill, 7), 1 << (skill - 1));
        }
        CHECK.due("skill(9, 7)", x.skill(9, 7), 256 + 1);
        LearningAdvisor y = Advisors.of("5;5;5;5;5;5;5;5;5;5=0&1&2&3&4&5&6&7&8");
        CHECK.due("skill(9, 7), all", y.skill(9, 7), 511);
    }

    private static void readySkillsAreCountedFromNoneOfTheirPartsToAll() {
        LearningAdvisor x = Advisors.withItems("51;51;50=0&1;50=0|1");
        CHECK.due("neither: and", x.skill(2, 6), 0);
        CHECK.due("neither: or", x.skill(3, 6), 0);
        CHECK.due("count(6)", x.count(6), 2);
        x.answer(1, 1);
        CHECK.due("the last: and", x.skill(2, 6), 0);
        CHECK.due("the last: or", x.skill(3, 6), 1);
        CHECK.due("count(6)", x.count(6), 3);
        x.answer(0, 1);
        CHECK.due("both: and", x.skill(2, 6), 1);
        CHECK.due("both: or", x.skill(3, 6), 1);
        CHECK.due("count(6)", x.count(6), 4);
        LearningAdvisor y = Advisors.of("1;1;1;1;1;1;1;1;1;1=0&1&2&3&4&5&6&7&8");
        CHECK.due("count(5), all ten", y.count(5), 10);
        CHECK.due("count(6), all ten", y.count(6), 10);
    }

    public static void main(String[] args) {
        atFirstThereIsOneSkillWithoutEvidence();
        thereAreAtMost12Items();
        evidenceForIsAtMost480();
        whatWouldBeMoreThan480IsCutOff();
        evidenceAgainstIsAtMost480();
        evidenceForARequiredSkillIsAtMost480();
        evidenceAgainstARequiredSkillIsAtMost480();
        aPartOfSmallEvidenceIsCutOff();
        readingBeginsTheAccountsAgain();
        aSkillIsMasteredFromItsPassMarkOn();
        anAnswerTellsWhetherTheSkillIsMasteredThen();
        theGreatestAndTheLeastMastery();
        theIntervalIsAtMost64();
        theDueDayStaysUntilTheNextAnswer();
        evidenceIsLostFromTheIntervalOn();
        theLossIsCountedFromTheLastPractice();
        eachLossIsRoundedDown();
        aSkillThatWasNeverPractisedLosesNothing();
        severalDaysPassOneAfterTheOther();
        daysAreFrom1To60();
        theDayIsAtMost9999();
        aDueDayMayBeLaterThan9999();
        aRightAnswerHelpsEachRequiredSkillOnce();
        aWrongAnswerBlamesRequiredSkillsThatAreNotMastered();
        anItemIsAnsweredOnceADay();
        rightAndWrongAnswersAreCountedFromTheFirstItemToTheLast();
        answersThatWereUndoneDoNotCount();
        prerequisitesAreSetsOfBits();
        readySkillsAreCountedFromNoneOfTheirPartsToAll();
        CHECK.end();
    }
}
