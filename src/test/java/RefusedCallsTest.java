import java.util.function.Consumer;

/**
 * 'Errors': each refused call of each promise answers its code and changes nothing that can be asked for, in an
 * advisor that is new, in one with something of everything, and in one that is full; and so do calls of which
 * the document says that nothing changes.
 */
public final class RefusedCallsTest {
    private static final int NONE = -1;
    private static final int BAD_ARGUMENT = -2;
    private static final int FULL = -3;
    private static final int ALREADY = -4;
    private static final int LEAST = Integer.MIN_VALUE;
    private static final int GREATEST = Integer.MAX_VALUE;
    private static final Check CHECK = new Check();
    private static final Twins NEW = new Twins(CHECK, x -> { });
    private static final Twins RICH = new Twins(CHECK, RefusedCallsTest::makeRich);
    private static final Twins ALL_FULL = new Twins(CHECK, RefusedCallsTest::makeFull);

    /** Three skills, four items of which one is answered on this day, a snapshot, and texts half typed. */
    private static void makeRich(LearningAdvisor x) {
        Advisors.read(x, "50;60=0;70=0&(1|0)");
        Advisors.addItems(x, 2, 2);
        x.addItem(1, 3);
        x.addItem(0, 1);
        x.answer(0, 1);
        x.nextDay(1);
        x.answer(2, 0);
        x.save();
        x.answer(1, 0);
        x.nextDay(2);
        x.write();
        x.answer(3, 1);
        x.explain(0);
        Advisors.type(x, "33;44");
    }

    /** Ten skills, twelve items, 60 entries, 6 changes, 80 characters, the day 9999, all items answered on it. */
    private static void makeFull(LearningAdvisor x) {
        Advisors.read(x, "60;60=0;60=1;60=2;60=3;60=4;60=5;60=6;60=7;60=8");
        Advisors.addItems(x, 6, 9);
        Advisors.addItems(x, 6, 0);
        Advisors.goTo(x, 9990);
        x.explain(0);
        x.nextDay(9);
        Advisors.answer(x, 0, 11, 0);
        x.write();
        x.save();
        x.append('7', 80);
    }

    private interface Call {
        int with(LearningAdvisor x, int argument);
    }

    /** A call that is refused with each of these arguments. */
    private static void refuses(Twins twins, String name, int want, Call call, int... arguments) {
        for (int argument : arguments) {
            twins.nothingChanges(name.replace("?", "" + argument), x -> call.with(x, argument), want);
        }
    }

    private static void argumentsOutsideTheirRangeAreRefused(Twins t) {
        refuses(t, "append(?, 1)", BAD_ARGUMENT, (x, a) -> x.append(a, 1), -1, 128, LEAST, GREATEST);
        refuses(t, "append(55, ?)", BAD_ARGUMENT, (x, a) -> x.append('7', a), 0, -1, 81, LEAST, GREATEST);
        refuses(t, "addItem(0, ?)", BAD_ARGUMENT, (x, a) -> x.addItem(0, a), -1, 5, LEAST, GREATEST);
        refuses(t, "nextDay(?)", BAD_ARGUMENT, (x, a) -> x.nextDay(a), 0, -1, 61, LEAST, GREATEST);
        refuses(t, "mastery(0, ?)", BAD_ARGUMENT, (x, a) -> x.mastery(0, a), -1, 2, LEAST, GREATEST);
        refuses(t, "skill(0, ?)", BAD_ARGUMENT, (x, a) -> x.skill(0, a), -1, 9, LEAST, GREATEST);
        refuses(t, "advise(?)", BAD_ARGUMENT, (x, a) -> x.advise(a), -1, 4, LEAST, GREATEST);
        refuses(t, "path(?)", BAD_ARGUMENT, (x, a) -> x.path(a), -1, 12, LEAST, GREATEST);
        refuses(t, "plan(?, 1, 0)", BAD_ARGUMENT, (x, a) -> x.plan(a, 1, 0), 0, -1, 31, LEAST, GREATEST);
        refuses(t, "plan(1, ?, 0)", BAD_ARGUMENT, (x, a) -> x.plan(1, a, 0), 0, -1, 13, LEAST, GREATEST);
        refuses(t, "plan(1, 1, ?)", BAD_ARGUMENT, (x, a) -> x.plan(1, 1, a), -1, 3, LEAST, GREATEST);
        refuses(t, "account(0, ?)", BAD_ARGUMENT, (x, a) -> x.account(0, a), -1, 4, LEAST, GREATEST);
        refuses(t, "replayed(0, ?)", BAD_ARGUMENT, (x, a) -> x.replayed(0, a), -1, 2, LEAST, GREATEST);
        refuses(t, "count(?)", BAD_ARGUMENT, (x, a) -> x.count(a), -1, 11, LEAST, GREATEST);
    }

    private static void argumentsOfItemsAndEntriesAreRefused(Twins t) {
        refuses(t, "item(0, ?)", BAD_ARGUMENT, (x, a) -> x.item(0, a), -1, 5, LEAST, GREATEST);
        refuses(t, "answer(1, ?)", BAD_ARGUMENT, (x, a) -> x.answer(1, a), -1, 2, LEAST, GREATEST);
        refuses(t, "answer(3, ?) of several", BAD_ARGUMENT, (x, a) -> x.answer(3, a), -1, 2, LEAST, GREATEST);
        refuses(t, "chance(0, ?)", BAD_ARGUMENT, (x, a) -> x.chance(0, a), -1, 4, LEAST, GREATEST);
        refuses(t, "whatIf(1, ?, 0, 0)", BAD_ARGUMENT, (x, a) -> x.whatIf(1, a, 0, 0), -1, 2, LEAST, GREATEST);
        refuses(t, "whatIf(1, 1, 0, ?)", BAD_ARGUMENT, (x, a) -> x.whatIf(1, 1, 0, a), -1, 2, LEAST, GREATEST);
        refuses(t, "whatIf(3, ?, 0, 0)", BAD_ARGUMENT, (x, a) -> x.whatIf(3, a, 0, 0), -1, 2);
        refuses(t, "explanation(0, ?)", BAD_ARGUMENT, (x, a) -> x.explanation(0, a), -1, 2, LEAST, GREATEST);
        refuses(t, "logEntry(0, ?)", BAD_ARGUMENT, (x, a) -> x.logEntry(0, a), -1, 2, LEAST, GREATEST);
    }

    private static void whatDoesNotExistIsRefused(Twins t, int skills, int items) {
        refuses(t, "addItem(?, 0)", NONE, (x, a) -> x.addItem(a, 0), -1, skills, LEAST, GREATEST);
        refuses(t, "addItem(?, 5)", NONE, (x, a) -> x.addItem(a, 5), -1, skills);
        refuses(t, "item(?, 0)", NONE, (x, a) -> x.item(a, 0), -1, items, 12, LEAST, GREATEST);
        refuses(t, "answer(?, 1)", NONE, (x, a) -> x.answer(a, 1), -1, items, 12, LEAST, GREATEST);
        refuses(t, "answer(?, 2)", NONE, (x, a) -> x.answer(a, 2), -1, items);
        refuses(t, "mastery(?, 0)", NONE, (x, a) -> x.mastery(a, 0), -1, skills, 10, LEAST, GREATEST);
        refuses(t, "skill(?, 0)", NONE, (x, a) -> x.skill(a, 0), -1, skills, 10, LEAST, GREATEST);
        refuses(t, "chance(?, 0)", NONE, (x, a) -> x.chance(a, 0), -1, items, 12, LEAST, GREATEST);
        refuses(t, "due(?)", NONE, (x, a) -> x.due(a), -1, 10, LEAST, GREATEST);
        refuses(t, "whatIf(?, 1, 0, 0)", NONE, (x, a) -> x.whatIf(a, 1, 0, 0), -1, items, 12, LEAST, GREATEST);
        refuses(t, "account(?, 0)", NONE, (x, a) -> x.account(a, 0), -1, skills, 10, LEAST, GREATEST);
        refuses(t, "lasting(?)", NONE, (x, a) -> x.lasting(a), -1, skills, 10, LEAST, GREATEST);
        refuses(t, "explain(?)", NONE, (x, a) -> x.explain(a), -1, items, 12, LEAST, GREATEST);
        refuses(t, "explanation(?, 0)", NONE, (x, a) -> x.explanation(a, 0), -1, 11, LEAST, GREATEST);
        refuses(t, "replayed(?, 0)", NONE, (x, a) -> x.replayed(a, 0), -1, skills, 10, LEAST, GREATEST);
        refuses(t, "explanation(?, 2)", NONE, (x, a) -> x.explanation(a, 2), -1, 11, LEAST, GREATEST);
        refuses(t, "logEntry(?, 2)", NONE, (x, a) -> x.logEntry(a, 2), -1, 60, LEAST, GREATEST);
        refuses(t, "item(?, 5)", NONE, (x, a) -> x.item(a, 5), -1, items, 12);
        refuses(t, "mastery(?, 2)", NONE, (x, a) -> x.mastery(a, 2), -1, skills, 10);
        refuses(t, "skill(?, 9)", NONE, (x, a) -> x.skill(a, 9), -1, skills, 10);
        refuses(t, "chance(?, 4)", NONE, (x, a) -> x.chance(a, 4), -1, items, 12);
        refuses(t, "account(?, 4)", NONE, (x, a) -> x.account(a, 4), -1, skills, 10);
        refuses(t, "replayed(?, 2)", NONE, (x, a) -> x.replayed(a, 2), -1, skills, 10);
        refuses(t, "logEntry(?, 0)", NONE, (x, a) -> x.logEntry(a, 0), -1, 60, LEAST, GREATEST);
        refuses(t, "written(?)", NONE, (x, a) -> x.written(a), -1, 80, LEAST, GREATEST);
    }

    private static void limitsAreNotExceeded() {
        refuses(RICH, "append(55, ?)", FULL, (x, a) -> x.append('7', a), 76, 80);
        refuses(ALL_FULL, "append(55, ?)", FULL, (x, a) -> x.append('7', a), 1, 2, 80);
        refuses(ALL_FULL, "addItem(0, ?)", FULL, (x, a) -> x.addItem(0, a), 0, 4);
        refuses(ALL_FULL, "addItem(9, ?)", FULL, (x, a) -> x.addItem(9, a), 0, 4);
        refuses(ALL_FULL, "nextDay(?)", FULL, (x, a) -> x.nextDay(a), 1, 2, 60);
    }

    private static void anAnsweredItemIsNotAnsweredAgain() {
        refuses(RICH, "answer(3, ?)", ALREADY, (x, a) -> x.answer(3, a), 0, 1);
        refuses(RICH, "whatIf(3, ?, 0, 0)", ALREADY, (x, a) -> x.whatIf(3, a, 0, 0), 0, 1);
        refuses(ALL_FULL, "answer(11, ?)", ALREADY, (x, a) -> x.answer(11, a), 0, 1);
        refuses(ALL_FULL, "whatIf(11, 1, ?, 1)", ALREADY, (x, a) -> x.whatIf(11, 1, a, 1), 0, 9);
    }

    private static void whatIsNotThereIsNotBroughtBack() {
        NEW.nothingChanges("undo()", LearningAdvisor::undo, NONE);
        NEW.nothingChanges("restore()", LearningAdvisor::restore, NONE);
        NEW.nothingChanges("advise(3)", x -> x.advise(3), NONE);
        NEW.nothingChanges("path(0)", x -> x.path(0), NONE);
        NEW.nothingChanges("lasting(0)", x -> x.lasting(0), NONE);
        Twins changed = new Twins(CHECK, x -> {
            Advisors.read(x, "60;60=0");
            x.addItem(1, 0);
            x.answer(0, 1);
            x.nextDay(5);
        });
        changed.nothingChanges("restore()", LearningAdvisor::restore, NONE);
        changed.nothingChanges("lasting(0), not mastered", x -> x.lasting(0), NONE);
    }

    /** A text with an error empties the text, and nothing else. */
    private static void aWrongTextChangesNothingButTheText() {
        emptiesOnlyTheText("", -100);
        emptiesOnlyTheText("0", -100);
        emptiesOnlyTheText("100", -102);
        emptiesOnlyTheText("7;", -102);
        emptiesOnlyTheText("7;7=", -104);
        emptiesOnlyTheText("60;60=1", -106);
        emptiesOnlyTheText("60;60=0;60=(0", -113);
        emptiesOnlyTheText("7;7=((((((0", -109);
        emptiesOnlyTheText("1;1;1;1;1;1;1;1;1;1;1", -119);
        emptiesOnlyTheText("99;9=0" + "|0".repeat(36) + "|x", -179);
    }

    private static void emptiesOnlyTheText(String text, int want) {
        emptiesOnlyTheText(x -> { }, text, want);
        emptiesOnlyTheText(RefusedCallsTest::makeRich, text, want);
    }

    private static void emptiesOnlyTheText(Consumer<LearningAdvisor> state, String text, int want) {
        Consumer<LearningAdvisor> emptied = x -> {
            state.accept(x);
            x.append('x', 1);
            x.readCurriculum();
        };
        LearningAdvisor asked = new LearningAdvisor();
        emptied.accept(asked);
        CHECK.due("read " + text, Advisors.read(asked, text), want);
        CHECK.due("count(9) after " + text, asked.count(9), 0);
        new Twins(CHECK, emptied).staysAs("reading " + text, x -> Advisors.read(x, text), x -> { });
    }

    /** What was before a curriculum is read, or before a snapshot is restored, leaves no trace. */
    private static void nothingIsLeftOfWhatWasDiscarded() {
        Consumer<LearningAdvisor> read = x -> Advisors.read(x, "60;70=0");
        Consumer<LearningAdvisor> readAndUsed = read.andThen(RefusedCallsTest::use);
        Twins.areAlike(CHECK, "reading", x -> {
            Advisors.read(x, "50;60=0;70=0&(1|0)");
            use(x);
            read.accept(x);
        }, read);
        Twins.areAlike(CHECK, "reading and use", x -> {
            readAndUsed.accept(x);
            readAndUsed.accept(x);
        }, readAndUsed);
        Twins.areAlike(CHECK, "restoring", x -> {
            readAndUsed.accept(x);
            x.save();
            Advisors.read(x, "50;60=0;70=0&(1|0)");
            use(x);
            x.restore();
        }, x -> {
            readAndUsed.accept(x);
            x.save();
            x.restore();
        });
        Twins.areAlike(CHECK, "undoing", x -> {
            read.accept(x);
            Advisors.addItems(x, 12, 1);
            Advisors.answer(x, 0, 2, 1);
            Advisors.answer(x, 3, 4, 0);
            x.nextDay(60);
            for (int i = 0; i < 6; i++) {
                x.undo();
            }
        }, x -> {
            read.accept(x);
            Advisors.addItems(x, 12, 1);
        });
    }

    private static void use(LearningAdvisor x) {
        Advisors.addItems(x, 6, 1);
        Advisors.addItems(x, 6, 0);
        Advisors.answer(x, 0, 5, 0);
        Advisors.answer(x, 6, 9, 1);
        x.nextDay(40);
        Advisors.answer(x, 4, 7, 1);
        x.nextDay(3);
        Advisors.answer(x, 3, 11, 0);
    }

    private static void questionsChangeNothing() {
        RICH.nothingChanges("path(11)", x -> x.path(11), NONE);
        RICH.nothingChanges("path(0)", x -> x.path(0), 2);
        RICH.nothingChanges("whatIf(1, 1, 2, 1)", x -> x.whatIf(1, 0, 2, 1) > 0 ? 1 : 0, 1);
        RICH.nothingChanges("plan(30, 12, 0)", x -> x.plan(30, 12, 0) > 30 ? 1 : 0, 1);
        RICH.nothingChanges("lasting(0)", x -> x.lasting(0) > 0 ? 1 : 0, 1);
        RICH.nothingChanges("advise(3)", x -> x.advise(3) >= 0 ? 1 : 0, 1);
        RICH.nothingChanges("replayed(2, 0)", x -> x.replayed(2, 0) > 0 ? 1 : 0, 1);
        ALL_FULL.nothingChanges("plan(30, 12, 0)", x -> x.plan(30, 12, 0), 29 * 12);
        ALL_FULL.nothingChanges("replayed(0, 1)", x -> x.replayed(0, 1), 96);
    }

    public static void main(String[] args) {
        argumentsOutsideTheirRangeAreRefused(NEW);
        argumentsOutsideTheirRangeAreRefused(RICH);
        argumentsOutsideTheirRangeAreRefused(ALL_FULL);
        argumentsOfItemsAndEntriesAreRefused(RICH);
        argumentsOfItemsAndEntriesAreRefused(ALL_FULL);
        whatDoesNotExistIsRefused(NEW, 1, 0);
        whatDoesNotExistIsRefused(RICH, 3, 4);
        whatDoesNotExistIsRefused(ALL_FULL, 10, 12);
        limitsAreNotExceeded();
        anAnsweredItemIsNotAnsweredAgain();
        whatIsNotThereIsNotBroughtBack();
        aWrongTextChangesNothingButTheText();
        nothingIsLeftOfWhatWasDiscarded();
        questionsChangeNothing();
        CHECK.end();
    }
}
