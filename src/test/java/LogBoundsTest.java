/**
 * The bounds of the log, of undo and of snapshots: promises 20, 21 and 25 to 27, and the sentences of 'Log'
 * and 'Undo'.
 */
public final class LogBoundsTest {
    private static final Check CHECK = new Check();
    private static final int[] FAR = {Integer.MIN_VALUE, -1000, 1000, Integer.MAX_VALUE};

    private static void logHas(LearningAdvisor x, int entries) {
        CHECK.due("count(7)", x.count(7), entries);
        CHECK.due("logEntry(-1, 1)", x.logEntry(-1, 1), -1);
        CHECK.due("logEntry(" + entries + ", 1)", x.logEntry(entries, 1), -1);
        if (entries > 0) {
            CHECK.due("logEntry(0, 1) is there", x.logEntry(0, 1) < 0 ? 0 : 1, 1);
            CHECK.due("the last entry is there", x.logEntry(entries - 1, 1) < 0 ? 0 : 1, 1);
        }
        replayGivesTheSame(x);
    }

    private static void replayGivesTheSame(LearningAdvisor x) {
        for (int skill = 0; skill < x.count(0); skill++) {
            CHECK.due("replayed(" + skill + ", 0)", x.replayed(skill, 0), x.skill(skill, 0));
            CHECK.due("replayed(" + skill + ", 1)", x.replayed(skill, 1), x.skill(skill, 1));
        }
    }

    private static void entryIs(LearningAdvisor x, int index, int item, int right) {
        CHECK.due("logEntry(" + index + ", 0)", x.logEntry(index, 0), item);
        CHECK.due("logEntry(" + index + ", 1)", x.logEntry(index, 1), right);
    }

    private static void theLogIsEmptyAtFirst() {
        LearningAdvisor x = new LearningAdvisor();
        logHas(x, 0);
        for (int index : FAR) {
            CHECK.due("logEntry(" + index + ", 0)", x.logEntry(index, 0), -1);
        }
        CHECK.due("logEntry(0, 2) of several errors", x.logEntry(0, 2), -1);
        CHECK.due("replayed(0, 0)", x.replayed(0, 0), 0);
    }

    private static void eachDayAndEachAnswerIsAnEntry() {
        LearningAdvisor x = Advisors.withItems("60;60");
        x.nextDay(1);
        logHas(x, 1);
        entryIs(x, 0, -1, 0);
        x.answer(1, 1);
        logHas(x, 2);
        entryIs(x, 1, 1, 1);
        x.answer(0, 0);
        logHas(x, 3);
        entryIs(x, 2, 0, 0);
        x.nextDay(3);
        logHas(x, 6);
        CHECK.due("log", Advisors.logged(x), "-1:0 1:1 0:0 -1:0 -1:0 -1:0");
    }

    private static void whatIsRefusedMakesNoEntry() {
        LearningAdvisor x = Advisors.withItems("60;60");
        x.answer(0, 1);
        x.answer(0, 1);
        x.answer(2, 1);
        x.answer(1, 2);
        x.nextDay(0);
        x.nextDay(61);
        x.restore();
        logHas(x, 1);
        Advisors.goTo(x, 9999);
        int entries = x.count(7);
        x.nextDay(1);
        CHECK.due("count(7) after FULL", x.count(7), entries);
    }

    private static void theLogHas60EntriesAtMost() {
        LearningAdvisor x = Advisors.withItems("60;60=0");
        x.answer(0, 0);
        x.answer(1, 1);
        x.nextDay(57);
        logHas(x, 59);
        entryIs(x, 0, 0, 0);
        x.answer(0, 1);
        logHas(x, 60);
        entryIs(x, 0, 0, 0);
        entryIs(x, 59, 0, 1);
        x.answer(1, 0);
        logHas(x, 60);
        entryIs(x, 0, 1, 1);
        entryIs(x, 1, -1, 0);
        entryIs(x, 58, 0, 1);
        entryIs(x, 59, 1, 0);
        x.nextDay(1);
        logHas(x, 60);
        entryIs(x, 0, -1, 0);
        entryIs(x, 57, 0, 1);
        entryIs(x, 59, -1, 0);
    }

    private static void oneCallOfDaysFillsTheLog() {
        LearningAdvisor x = Advisors.withItems("60;60=0");
        x.nextDay(60);
        logHas(x, 60);
        x.answer(1, 1);
        logHas(x, 60);
        entryIs(x, 58, -1, 0);
        entryIs(x, 59, 1, 1);
        x.nextDay(59);
        logHas(x, 60);
        entryIs(x, 0, 1, 1);
        entryIs(x, 1, -1, 0);
        x.nextDay(60);
        logHas(x, 60);
        entryIs(x, 0, -1, 0);
        entryIs(x, 59, -1, 0);
        CHECK.due("replayed(1, 0)", x.replayed(1, 0), 7);
    }

    /** Six entries a day, 25 days long: the last ten days are kept, however often the log was full. */
    private static void theNewestEntriesAreKeptInTheirOrder() {
        LearningAdvisor x = Advisors.withItems("60;60=0;60=1;50;40=0&(1|3)");
        StringBuilder want = new StringBuilder();
        for (int day = 0; day < 25; day++) {
            for (int item = 0; item < 5; item++) {
                int right = (day + item) % 3 == 0 ? 0 : 1;
                x.answer(item, right);
                want.append(day < 15 ? "" : item + ":" + right + " ");
            }
            x.nextDay(1);
            want.append(day < 15 ? "" : "-1:0 ");
            CHECK.due("count(7)", x.count(7), Math.min(60, 6 * day + 6));
        }
        CHECK.due("log", Advisors.logged(x), want.toString().trim());
        logHas(x, 60);
        x.nextDay(1);
        entryIs(x, 0, 1, 1);
        logHas(x, 60);
    }

    private static void theLogBeginsAgainAfterUndo() {
        LearningAdvisor x = Advisors.withItems("60;60=0");
        x.answer(1, 0);
        x.nextDay(60);
        x.answer(1, 1);
        x.undo();
        logHas(x, 0);
        CHECK.due("replayed(1, 1)", x.replayed(1, 1), 7);
        x.nextDay(1);
        x.answer(0, 1);
        logHas(x, 2);
        entryIs(x, 0, -1, 0);
        entryIs(x, 1, 0, 1);
        x.nextDay(60);
        logHas(x, 60);
    }

    private static void theLogBeginsAgainAfterRestoreAndReading() {
        LearningAdvisor x = Advisors.withItems("60;60=0");
        x.answer(1, 0);
        x.nextDay(2);
        CHECK.due("save()", x.save(), 2);
        logHas(x, 3);
        x.restore();
        logHas(x, 0);
        CHECK.due("replayed(1, 1)", x.replayed(1, 1), 13);
        x.answer(1, 1);
        logHas(x, 1);
        Advisors.read(x, "60;");
        logHas(x, 1);
        Advisors.read(x, "60;60");
        logHas(x, 0);
        CHECK.due("replayed(1, 0)", x.replayed(1, 0), 0);
        x.restore();
        logHas(x, 0);
    }

    private static void aReplayAppliesAllThatAnAnswerDoes() {
        LearningAdvisor x = Advisors.withTwelve("51;50=0", 1);
        Advisors.answerTimes(x, 0, 40);
        logHas(x, 43);
        Advisors.answerTimes(x, 1, 40);
        logHas(x, 60);
        CHECK.due("against it was cut off", x.account(1, 2) > 0 ? 1 : 0, 1);
        x.nextDay(60);
        logHas(x, 60);
    }

    private static void nothingCanBeUndoneAtFirst() {
        LearningAdvisor x = Advisors.withItems("60");
        CHECK.due("count(8)", x.count(8), 0);
        CHECK.due("undo()", x.undo(), -1);
        x.addItem(0, 0);
        x.save();
        x.write();
        x.explain(0);
        x.append('7', 1);
        x.path(0);
        x.plan(30, 12, 0);
        x.whatIf(0, 1, 0, 0);
        CHECK.due("count(8), no changes", x.count(8), 0);
        CHECK.due("undo()", x.undo(), -1);
        CHECK.due("count(1)", x.count(1), 2);
    }

    private static void sixChangesCanBeUndoneAtMost() {
        for (int changes = 0; changes <= 9; changes++) {
            LearningAdvisor x = Advisors.withTwelve("60", 0);
            Advisors.answer(x, 0, changes - 1, 1);
            int most = Math.min(6, changes);
            CHECK.due("count(8)", x.count(8), most);
            for (int left = most - 1; left >= 0; left--) {
                CHECK.due("undo()", x.undo(), left);
                CHECK.due("count(8)", x.count(8), left);
                CHECK.due("right answers left", x.count(3), changes - most + left);
            }
            CHECK.due("undo(), one too often", x.undo(), -1);
            CHECK.due("right answers left", x.count(3), changes - most);
            CHECK.due("evidence left", x.skill(0, 0), 16 * (changes - most));
        }
    }

    private static void aCallOfDaysIsOneChange() {
        LearningAdvisor x = Advisors.withItems("60");
        for (int call = 1; call <= 7; call++) {
            x.nextDay(60);
            CHECK.due("count(8)", x.count(8), Math.min(6, call));
        }
        for (int left = 5; left >= 0; left--) {
            CHECK.due("undo()", x.undo(), left);
            CHECK.due("day", x.count(2), 60 * (left + 1));
        }
        CHECK.due("undo()", x.undo(), -1);
        CHECK.due("day", x.count(2), 60);
    }

    private static void whatIsRefusedIsNoChange() {
        LearningAdvisor x = Advisors.withItems("60;60");
        x.answer(0, 1);
        x.answer(0, 0);
        x.answer(2, 1);
        x.answer(1, -1);
        x.nextDay(61);
        x.nextDay(0);
        x.restore();
        Advisors.read(x, "60;");
        CHECK.due("count(8)", x.count(8), 1);
        CHECK.due("undo()", x.undo(), 0);
        CHECK.due("evidence", x.count(10), 0);
        CHECK.due("undo()", x.undo(), -1);
    }

    /** Answers and undos turn the row of kept states round several times. */
    private static void undoneAndNewChangesFollowEachOther() {
        LearningAdvisor x = Advisors.withTwelve("60", 0);
        Advisors.answer(x, 0, 5, 1);
        x.undo();
        x.undo();
        CHECK.due("undo()", x.undo(), 3);
        Advisors.answer(x, 5, 8, 0);
        CHECK.due("count(8)", x.count(8), 6);
        CHECK.due("evidence", 1000 * x.skill(0, 0) + x.skill(0, 1), 48064);
        int[] evidence = {48048, 48032, 48016, 48000, 32000, 16000};
        for (int i = 0; i < evidence.length; i++) {
            CHECK.due("undo()", x.undo(), 5 - i);
            CHECK.due("evidence", 1000 * x.skill(0, 0) + x.skill(0, 1), evidence[i]);
        }
        CHECK.due("undo()", x.undo(), -1);
        CHECK.due("answer(0, 1), the oldest was not undone", x.answer(0, 1), -4);
        CHECK.due("answer(1, 1), the next one was", x.answer(1, 1), 1);
    }

    private static void undoBringsBackWhatWasCutOffAndLost() {
        LearningAdvisor x = Advisors.withTwelve("50", 0);
        Advisors.answerTimes(x, 1, 31);
        x.nextDay(60);
        x.nextDay(10);
        int[] kept = {x.skill(0, 0), x.account(0, 2), x.account(0, 3)};
        CHECK.due("lost", kept[2] > 0 ? 1 : 0, 1);
        CHECK.due("undo()", x.undo(), 5);
        CHECK.due("evidence", x.skill(0, 0), 480);
        CHECK.due("lost, undone", x.account(0, 3), 0);
        x.undo();
        CHECK.due("cut off", x.account(0, 2), 16);
        x.undo();
        CHECK.due("cut off, undone", x.account(0, 2), 0);
        CHECK.due("interval", x.skill(0, 2), 64);
        CHECK.due("practice day", x.skill(0, 4), 2);
    }

    private static void readingAndRestoringDiscardTheChanges() {
        LearningAdvisor x = Advisors.withItems("60");
        x.answer(0, 1);
        x.save();
        x.nextDay(1);
        CHECK.due("count(8) after save", x.count(8), 2);
        x.restore();
        CHECK.due("count(8) after restore", x.count(8), 0);
        CHECK.due("undo() after restore", x.undo(), -1);
        CHECK.due("the answer is not undone", x.count(3), 1);
        x.nextDay(1);
        Advisors.read(x, "x");
        CHECK.due("count(8) after an error", x.count(8), 1);
        Advisors.read(x, "70");
        CHECK.due("count(8) after reading", x.count(8), 0);
        CHECK.due("undo() after reading", x.undo(), -1);
        CHECK.due("pass mark", x.skill(0, 8), 70);
    }

    private static void undoLeavesItemsAndSnapshot() {
        LearningAdvisor x = Advisors.withItems("60");
        x.answer(0, 1);
        Advisors.addItems(x, 11, 0);
        x.answer(11, 0);
        x.save();
        x.undo();
        x.undo();
        CHECK.due("count(1)", x.count(1), 12);
        CHECK.due("item(11, 3)", x.item(11, 3), 0);
        CHECK.due("addItem(0, 0)", x.addItem(0, 0), -3);
        CHECK.due("restore()", x.restore(), 0);
        CHECK.due("item(11, 3) in the snapshot", x.item(11, 3), 1);
        CHECK.due("item(0, 2) in the snapshot", x.item(0, 2), 1);
    }

    private static void withoutASnapshotNothingIsRestored() {
        LearningAdvisor x = Advisors.withItems("60;60");
        x.answer(0, 1);
        x.nextDay(3);
        CHECK.due("restore()", x.restore(), -1);
        CHECK.due("day", x.count(2), 3);
        CHECK.due("changes", x.count(8), 2);
        logHas(x, 4);
        CHECK.due("evidence", x.count(10), 13);
    }

    private static void snapshotsAreMadeOnTheFirstAndTheLastDay() {
        LearningAdvisor x = new LearningAdvisor();
        CHECK.due("save()", x.save(), 0);
        Advisors.read(x, "50;50");
        x.addItem(1, 1);
        Advisors.goTo(x, 9999);
        CHECK.due("restore()", x.restore(), 0);
        CHECK.due("count(0)", x.count(0), 1);
        CHECK.due("count(1)", x.count(1), 0);
        CHECK.due("pass mark", x.skill(0, 8), 70);
        Advisors.goTo(x, 9999);
        CHECK.due("save()", x.save(), 9999);
        Advisors.read(x, "50");
        CHECK.due("restore()", x.restore(), 9999);
        CHECK.due("nextDay(1)", x.nextDay(1), -3);
    }

    private static void theSnapshotIsKept() {
        LearningAdvisor x = Advisors.withItems("60;60=0");
        x.answer(1, 1);
        x.save();
        for (int time = 0; time < 3; time++) {
            x.nextDay(9);
            x.answer(0, 0);
            x.answer(1, 0);
            x.addItem(1, 4);
            CHECK.due("restore()", x.restore(), 0);
            CHECK.due("evidence", x.count(10), 20);
            CHECK.due("count(1)", x.count(1), 2);
            CHECK.due("interval", x.skill(1, 2), 2);
            CHECK.due("answer(1, 1) on the day of the snapshot", x.answer(1, 1), -4);
            CHECK.due("account(1, 0)", x.account(1, 0), 16);
            CHECK.due("account(1, 1)", x.account(1, 1), 0);
        }
    }

    private static void aLaterSnapshotReplacesTheEarlier() {
        LearningAdvisor x = Advisors.withItems("60");
        x.save();
        x.answer(0, 1);
        x.nextDay(1);
        x.save();
        x.answer(0, 1);
        x.restore();
        CHECK.due("evidence", x.skill(0, 0), 16);
        x.restore();
        CHECK.due("evidence", x.skill(0, 0), 16);
    }

    private static void itemsFromNoneTo12AreKept() {
        LearningAdvisor x = Advisors.of("60");
        x.save();
        Advisors.addItems(x, 12, 0);
        Advisors.answer(x, 0, 11, 1);
        x.restore();
        CHECK.due("item(0, 0) of none", x.item(0, 0), -1);
        CHECK.due("addItem(0, 2)", x.addItem(0, 2), 0);
        CHECK.due("item(0, 1)", x.item(0, 1), 2);
        CHECK.due("item(0, 2)", x.item(0, 2), 0);
        CHECK.due("item(0, 4)", x.item(0, 4), -1);
        Advisors.addItems(x, 11, 0);
        Advisors.answer(x, 6, 11, 0);
        x.save();
        Advisors.read(x, "50");
        x.restore();
        CHECK.due("count(1)", x.count(1), 12);
        CHECK.due("addItem(0, 0)", x.addItem(0, 0), -3);
        CHECK.due("item(11, 3)", x.item(11, 3), 1);
        CHECK.due("item(5, 3)", x.item(5, 3), 0);
    }

    private static void skillsAndDifficultiesOfItemsAreKept() {
        LearningAdvisor x = Advisors.of("60;60=0;60");
        for (int item = 0; item < 12; item++) {
            x.addItem(item % 3, item % 5);
        }
        x.save();
        Advisors.read(x, "50;50");
        for (int item = 0; item < 12; item++) {
            x.addItem(1, 4 - item % 5);
        }
        x.restore();
        for (int item = 0; item < 12; item++) {
            CHECK.due("item(" + item + ", 0)", x.item(item, 0), item % 3);
            CHECK.due("item(" + item + ", 1)", x.item(item, 1), item % 5);
        }
    }

    private static void textsAndExplanationAreLeftAsTheyAre() {
        LearningAdvisor x = Advisors.withItems("60;60=0");
        Advisors.type(x, "12");
        x.write();
        x.explain(1);
        x.save();
        Advisors.read(x, ";50");
        Advisors.type(x, "345");
        x.addItem(1, 0);
        x.write();
        x.explain(0);
        x.restore();
        CHECK.due("length of the text", x.count(9), 3);
        CHECK.due("written text", Advisors.written(x), "12;50");
        CHECK.due("explanation(0, 0)", x.explanation(0, 0), 2);
        CHECK.due("explanation(0, 1)", x.explanation(0, 1), 1);
        CHECK.due("explanation(1, 0)", x.explanation(1, 0), -1);
        CHECK.due("the curriculum", x.skill(1, 7), 1);
        CHECK.due("append to the text", x.append('6', 77), 80);
    }

    /** An object is used for at most 512 calls: the last of them is still answered as due. */
    private static void allOf512CallsAreAnswered() {
        LearningAdvisor x = new LearningAdvisor();
        for (int call = 1; call < 512; call++) {
            CHECK.due("nextDay(1)", x.nextDay(1), call);
        }
        CHECK.due("count(2), the 512th call", x.count(2), 511);
        LearningAdvisor y = new LearningAdvisor();
        for (int call = 0; call < 512; call += 2) {
            CHECK.due("append", y.append('1' + call % 9, 1), 1);
            CHECK.due("readCurriculum()", y.readCurriculum(), 1);
        }
        LearningAdvisor z = Advisors.withTwelve("99", 0);
        for (int call = 15; call < 512; call++) {
            CHECK.due("plan(30, 12, 0)", z.plan(30, 12, 0), 360);
        }
        LearningAdvisor v = new LearningAdvisor();
        v.addItem(0, 0);
        for (int call = 1; call + 4 <= 512; call += 4) {
            CHECK.due("answer(0, 1)", v.answer(0, 1), 0);
            CHECK.due("nextDay(60)", v.nextDay(60), 60);
            CHECK.due("undo()", v.undo(), 1);
            CHECK.due("undo()", v.undo(), 0);
        }
    }

    public static void main(String[] args) {
        theLogIsEmptyAtFirst();
        eachDayAndEachAnswerIsAnEntry();
        whatIsRefusedMakesNoEntry();
        theLogHas60EntriesAtMost();
        oneCallOfDaysFillsTheLog();
        theNewestEntriesAreKeptInTheirOrder();
        theLogBeginsAgainAfterUndo();
        theLogBeginsAgainAfterRestoreAndReading();
        aReplayAppliesAllThatAnAnswerDoes();
        nothingCanBeUndoneAtFirst();
        sixChangesCanBeUndoneAtMost();
        aCallOfDaysIsOneChange();
        whatIsRefusedIsNoChange();
        undoneAndNewChangesFollowEachOther();
        undoBringsBackWhatWasCutOffAndLost();
        readingAndRestoringDiscardTheChanges();
        undoLeavesItemsAndSnapshot();
        withoutASnapshotNothingIsRestored();
        snapshotsAreMadeOnTheFirstAndTheLastDay();
        theSnapshotIsKept();
        aLaterSnapshotReplacesTheEarlier();
        itemsFromNoneTo12AreKept();
        skillsAndDifficultiesOfItemsAreKept();
        textsAndExplanationAreLeftAsTheyAre();
        allOf512CallsAreAnswered();
        CHECK.end();
    }
}
