import java.util.List;
import java.util.function.Consumer;

/**
 * Each method with every argument around its bounds, and with the least and the greatest ints, in states from
 * empty to full, compared with the model of the document. The order of several errors is in it too.
 */
public final class EveryArgumentTest {
    private static final int MOST_CALLS = 512;
    private static final int[] ITEMS = around(12);
    private static final int[] SKILLS = around(10);
    private static final int[] KINDS = around(11);
    private static final int[] FEW = {Integer.MIN_VALUE, -2, -1, 0, 1, 2, 3, 4, 5, Integer.MAX_VALUE};
    private static int asked = 0;
    private static int failed = 0;

    private final Consumer<Both> state;
    private Both both;

    private EveryArgumentTest(Consumer<Both> state) {
        this.state = state;
        begin();
    }

    /** From -3 to 3 above the bound, and what would wrap around if it were added to or multiplied. */
    private static int[] around(int bound) {
        int[] far = {Integer.MIN_VALUE, Integer.MIN_VALUE + 1, -65536, 65536, 1 << 30, Integer.MAX_VALUE - 1,
            Integer.MAX_VALUE};
        int[] all = new int[bound + 7 + far.length];
        for (int i = 0; i < bound + 7; i++) {
            all[i] = i - 3;
        }
        System.arraycopy(far, 0, all, bound + 7, far.length);
        return all;
    }

    private void begin() {
        both = new Both();
        state.accept(both);
    }

    /** The advisor for the next question; a new one before the old one has had its calls. */
    private Both next() {
        asked++;
        if (both.differs()) {
            failed++;
        }
        if (both.differs() || both.calls() >= MOST_CALLS - 2) {
            begin();
        }
        return both;
    }

    private void askWithOneArgument() {
        for (int a : around(130)) {
            next().advise(a);
            next().due(a);
            next().path(a);
            next().lasting(a);
            next().count(a);
            next().written(a);
            next().explain(a);
        }
    }

    private void askWithTwoArguments() {
        for (int b : KINDS) {
            for (int a : SKILLS) {
                next().mastery(a, b);
                next().skill(a, b);
                next().account(a, b);
                next().replayed(a, b);
                next().explanation(a, b);
            }
            for (int a : ITEMS) {
                next().item(a, b);
                next().chance(a, b);
            }
        }
        for (int b : FEW) {
            for (int a : around(61)) {
                next().logEntry(a, b);
            }
        }
    }

    private void askWithMoreArguments() {
        int[] few = {Integer.MIN_VALUE, -1, 0, 1, 2, Integer.MAX_VALUE};
        for (int item : ITEMS) {
            for (int skill : SKILLS) {
                for (int right : few) {
                    for (int part : few) {
                        next().whatIf(item, right, skill, part);
                    }
                }
            }
        }
        for (int days : new int[] {Integer.MIN_VALUE, -1, 0, 1, 2, 29, 30, 31, Integer.MAX_VALUE}) {
            for (int answers : new int[] {Integer.MIN_VALUE, -1, 0, 1, 2, 11, 12, 13, Integer.MAX_VALUE}) {
                for (int what : new int[] {-1, 0, 1, 2, 3}) {
                    next().plan(days, answers, what);
                }
            }
        }
    }

    /** Each changing call is made in the state, and not after another one. */
    private void change() {
        for (int a : around(130)) {
            changeBy(x -> x.append(a, 1));
            changeBy(x -> x.append('7', a));
            changeBy(x -> x.nextDay(a));
            for (int b : FEW) {
                changeBy(x -> x.addItem(a, b));
                changeBy(x -> x.answer(a, b));
            }
        }
        changeBy(Both::readCurriculum);
        changeBy(Both::write);
        changeBy(Both::undo);
        changeBy(Both::save);
        changeBy(Both::restore);
    }

    private void changeBy(Consumer<Both> call) {
        begin();
        call.accept(next());
        for (int what = 0; what < 11; what++) {
            next().count(what);
        }
        next().undo();
        next().count(10);
        next().restore();
        next().count(10);
    }

    private static void newOne(Both x) {
    }

    private static void practised(Both x) {
        x.type("50;60=0;70=0&(1|0);51;45=3|2&1");
        x.readCurriculum();
        for (int item = 0; item < 7; item++) {
            x.addItem(4 - item % 5, item % 5);
        }
        x.answer(0, 1);
        x.answer(3, 1);
        x.nextDay(2);
        x.answer(1, 0);
        x.save();
        x.answer(4, 1);
        x.nextDay(1);
        x.answer(2, 0);
        x.answer(4, 0);
        x.write();
        x.explain(0);
        x.type("12;34=0");
    }

    private static void undone(Both x) {
        practised(x);
        for (int change = 0; change < 6; change++) {
            x.undo();
        }
    }

    private static void full(Both x) {
        x.type("9;52=0;53=1;54=0|1;55=3&2;56=4;57=5|(0&1);58=6;59=(7|0)&1;60=0&1&2&3&4&5&6&7&8");
        x.readCurriculum();
        for (int item = 0; item < 12; item++) {
            x.addItem(item % 10, item % 5);
        }
        for (int day = 0; day < 4; day++) {
            for (int item = 0; item < 12; item++) {
                x.answer(item, item < 5 || day == 3 ? 1 : 0);
            }
            x.nextDay(day == 3 ? 6 : 1);
        }
        x.answer(1, 1);
        x.explain(9);
        x.save();
        x.write();
        x.append('7', 80);
    }

    /** All evidence that there can be, on the last day. */
    private static void greatest(Both x) {
        x.type("96;97=0");
        x.readCurriculum();
        for (int item = 0; item < 12; item++) {
            x.addItem(1, item % 5);
        }
        for (int i = 0; i < 166; i++) {
            x.nextDay(60);
        }
        for (int day = 9960; day < 9971; day++) {
            for (int item = 0; item < 12; item++) {
                x.answer(item, 1);
            }
            x.nextDay(1);
        }
        x.nextDay(28);
        x.save();
        x.answer(0, 1);
        x.answer(11, 0);
    }

    public static void main(String[] args) {
        List<Consumer<Both>> states = List.of(EveryArgumentTest::newOne, EveryArgumentTest::practised,
                EveryArgumentTest::undone, EveryArgumentTest::full, EveryArgumentTest::greatest);
        for (Consumer<Both> state : states) {
            EveryArgumentTest test = new EveryArgumentTest(state);
            test.askWithOneArgument();
            test.askWithTwoArguments();
            test.askWithMoreArguments();
            test.change();
            test.next();
        }
        System.out.println(asked + " calls in five states, " + failed + " runs not as due");
        if (failed > 0) {
            System.exit(1);
        }
    }
}
