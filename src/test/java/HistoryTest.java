/** The log, undo and snapshots: promises 20, 21 and 25 to 27. */
public final class HistoryTest {
    private static final Check CHECK = new Check();

    private static void theLogKeepsAnswersAndDays() {
        LearningAdvisor x = Advisors.withItems("60;60=0");
        x.answer(1, 1);
        x.answer(0, 0);
        x.nextDay(3);
        x.answer(0, 1);
        CHECK.due("log", Advisors.logged(x), "1:1 0:0 -1:0 -1:0 -1:0 0:1");
        CHECK.due("logEntry(6, 0)", x.logEntry(6, 0), -1);
        CHECK.due("logEntry(-1, 2), the first error", x.logEntry(-1, 2), -1);
        CHECK.due("logEntry(0, 2)", x.logEntry(0, 2), -2);
        CHECK.due("logEntry(0, -1)", x.logEntry(0, -1), -2);
        x.answer(0, 1);
        x.nextDay(61);
        CHECK.due("count(7), errors make no entries", x.count(7), 6);
        for (int skill = 0; skill < 2; skill++) {
            for (int side = 0; side < 2; side++) {
                CHECK.due("replayed", x.replayed(skill, side), x.skill(skill, side));
            }
        }
        CHECK.due("replayed(0, 0)", x.replayed(0, 0), 4 + 16);
        CHECK.due("replayed(0, 1)", x.replayed(0, 1), 16 - 2 - 1 - 1);
        CHECK.due("replayed(2, 2)", x.replayed(2, 2), -1);
        CHECK.due("replayed(-1, 0)", x.replayed(-1, 0), -1);
        CHECK.due("replayed(0, 2)", x.replayed(0, 2), -2);
        CHECK.due("replayed(0, -1)", x.replayed(0, -1), -2);
    }

    private static void theLogTakesOffItsOldestEntries() {
        LearningAdvisor x = Advisors.withItems("60;60=0");
        x.answer(1, 1);
        x.answer(0, 1);
        x.nextDay(57);
        x.answer(0, 0);
        CHECK.due("count(7)", x.count(7), 60);
        CHECK.due("logEntry(0, 0)", x.logEntry(0, 0), 1);
        x.answer(1, 1);
        CHECK.due("count(7)", x.count(7), 60);
        CHECK.due("logEntry(0, 0)", x.logEntry(0, 0), 0);
        CHECK.due("logEntry(59, 0)", x.logEntry(59, 0), 1);
        CHECK.due("logEntry(59, 1)", x.logEntry(59, 1), 1);
        CHECK.due("logEntry(60, 0)", x.logEntry(60, 0), -1);
        x.nextDay(60);
        CHECK.due("logEntry(0, 0)", x.logEntry(0, 0), -1);
        for (int skill = 0; skill < 2; skill++) {
            CHECK.due("replayed for", x.replayed(skill, 0), x.skill(skill, 0));
            CHECK.due("replayed against", x.replayed(skill, 1), x.skill(skill, 1));
        }
        CHECK.due("replayed(0, 0)", x.replayed(0, 0) > 0 ? 1 : 0, 1);
    }

    private static void sixChangesCanBeUndone() {
        LearningAdvisor x = Advisors.withItems("60;60;60;60;60;60;60;60");
        for (int item = 0; item < 8; item++) {
            x.answer(item, 1);
            CHECK.due("count(8)", x.count(8), Math.min(6, item + 1));
        }
        for (int left = 5; left >= 0; left--) {
            CHECK.due("undo()", x.undo(), left);
            CHECK.due("count(3)", x.count(3), left + 2);
            CHECK.due("count(7)", x.count(7), 0);
        }
        CHECK.due("undo()", x.undo(), -1);
        CHECK.due("count(3)", x.count(3), 2);
        CHECK.due("answer(2, 1)", x.answer(2, 1), 1);
        CHECK.due("answer(1, 1)", x.answer(1, 1), -4);
        CHECK.due("undo()", x.undo(), 0);
    }

    private static void undoBringsBackAllThatACallChanged() {
        LearningAdvisor x = Advisors.withItems("60;60=0");
        x.answer(1, 0);
        x.nextDay(9);
        String before = state(x);
        x.answer(1, 1);
        x.undo();
        CHECK.due("an answer undone", state(x), before);
        x.answer(0, 1);
        before = state(x);
        x.nextDay(40);
        CHECK.due("changed", state(x).equals(before) ? 1 : 0, 0);
        x.undo();
        CHECK.due("days undone", state(x), before);
        CHECK.due("replayed", x.replayed(0, 0), x.skill(0, 0));
        x.nextDay(2);
        CHECK.due("log", Advisors.logged(x), "-1:0 -1:0");
        CHECK.due("replayed", x.replayed(0, 0), x.skill(0, 0));
    }

    private static void undoLeavesAddedItems() {
        LearningAdvisor x = Advisors.withItems("60");
        x.answer(0, 1);
        CHECK.due("addItem(0, 3)", x.addItem(0, 3), 1);
        x.answer(1, 0);
        CHECK.due("undo()", x.undo(), 1);
        CHECK.due("undo()", x.undo(), 0);
        CHECK.due("count(1)", x.count(1), 2);
        CHECK.due("item(1, 1)", x.item(1, 1), 3);
        CHECK.due("item(1, 3)", x.item(1, 3), 0);
        CHECK.due("item(1, 4)", x.item(1, 4), -1);
    }

    private static String state(LearningAdvisor x) {
        StringBuilder text = new StringBuilder().append(x.count(2));
        for (int skill = 0; skill < x.count(0); skill++) {
            for (int what = 0; what < 9; what++) {
                text.append(' ').append(x.skill(skill, what));
            }
            for (int what = 0; what < 4; what++) {
                text.append(' ').append(x.account(skill, what));
            }
        }
        for (int item = 0; item < x.count(1); item++) {
            for (int what = 0; what < 5; what++) {
                text.append(' ').append(x.item(item, what));
            }
        }
        return text.toString();
    }

    private static void aSnapshotBringsBackWhatItKeeps() {
        LearningAdvisor x = Advisors.withItems("60;60=0");
        CHECK.due("restore() without a snapshot", x.restore(), -1);
        x.answer(1, 1);
        x.nextDay(8);
        x.answer(0, 0);
        String before = state(x);
        CHECK.due("save()", x.save(), 8);
        CHECK.due("save changes nothing", x.count(7) + x.count(8), 10 + 3);
        x.nextDay(8);
        x.answer(0, 1);
        Advisors.read(x, "30");
        x.addItem(0, 4);
        x.answer(0, 1);
        x.write();
        x.explain(0);
        Advisors.type(x, "5;5");
        CHECK.due("restore()", x.restore(), 8);
        CHECK.due("state", state(x), before);
        CHECK.due("count(7)", x.count(7), 0);
        CHECK.due("count(8)", x.count(8), 0);
        CHECK.due("undo()", x.undo(), -1);
        CHECK.due("the text stays", x.count(9), 3);
        CHECK.due("the written text stays", Advisors.written(x), "30");
        CHECK.due("the explanation stays", x.explanation(0, 0), 1);
        CHECK.due("replayed", x.replayed(1, 0), x.skill(1, 0));
        x.write();
        CHECK.due("the curriculum", Advisors.written(x), "60;60=0");
        CHECK.due("an item answered on this day", x.answer(0, 1), -4);
        x.addItem(0, 0);
        x.nextDay(1);
        CHECK.due("restore() again", x.restore(), 8);
        CHECK.due("state", state(x), before);
    }

    private static void aLaterSnapshotReplacesTheEarlier() {
        LearningAdvisor x = Advisors.withItems("60");
        x.save();
        x.nextDay(5);
        CHECK.due("save()", x.save(), 5);
        x.nextDay(5);
        CHECK.due("restore()", x.restore(), 5);
        CHECK.due("undo()", x.undo(), -1);
        x.answer(0, 1);
        x.save();
        x.undo();
        CHECK.due("answer undone", x.skill(0, 0), 0);
        x.restore();
        CHECK.due("the answer in the snapshot", x.skill(0, 0), 16);
        CHECK.due("account(0, 0)", x.account(0, 0), 16);
    }

    public static void main(String[] args) {
        theLogKeepsAnswersAndDays();
        theLogTakesOffItsOldestEntries();
        sixChangesCanBeUndone();
        undoBringsBackAllThatACallChanged();
        undoLeavesAddedItems();
        aSnapshotBringsBackWhatItKeeps();
        aLaterSnapshotReplacesTheEarlier();
        CHECK.end();
    }
}
