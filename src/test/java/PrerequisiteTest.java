/**
 * "A prerequisite is fulfilled by its skills that are mastered", and what blocks it: expressions over three skills,
 * for each of the eight sets of skills that may be mastered, against the same expression in Java.
 */
public final class PrerequisiteTest {
    private static final Check CHECK = new Check();

    private interface Fulfilled {
        boolean by(boolean a, boolean b, boolean c);
    }

    private interface Blocking {
        int when(boolean a, boolean b, boolean c);
    }

    /** Without evidence, a skill of 50 is mastered and one of 51 is not. */
    private static String mark(boolean isMastered) {
        return isMastered ? "50" : "51";
    }

    private static void isFulfilled(String text, int skills, Fulfilled fulfilled, Blocking blocking) {
        for (int set = 0; set < 8; set++) {
            boolean a = (set & 1) != 0;
            boolean b = (set & 2) != 0;
            boolean c = (set & 4) != 0;
            LearningAdvisor x = Advisors.of(mark(a) + ";" + mark(b) + ";" + mark(c) + ";99=" + text);
            x.addItem(3, 0);
            String which = text + " by " + Integer.bitCount(set) + " mastered skills, set " + set;
            boolean isReady = fulfilled.by(a, b, c);
            CHECK.due(which + ", skill(3, 6)", x.skill(3, 6), isReady ? 1 : 0);
            CHECK.due(which + ", skill(3, 7)", x.skill(3, 7), skills);
            CHECK.due(which + ", count(5)", x.count(5), Integer.bitCount(set));
            CHECK.due(which + ", count(6)", x.count(6), isReady ? 4 : 3);
            CHECK.due(which + ", advise(1)", x.advise(1), isReady ? 0 : -1);
            CHECK.due(which + ", explained", Advisors.explained(x, 0),
                    isReady ? "5:0" : "3:3 6:" + blocking.when(a, b, c));
        }
    }

    private static void skillsAndsAndOrs() {
        isFulfilled("0", 1, (a, b, c) -> a, (a, b, c) -> 0);
        isFulfilled("2", 4, (a, b, c) -> c, (a, b, c) -> 2);
        isFulfilled("0&1", 3, (a, b, c) -> a && b, (a, b, c) -> a ? 1 : 0);
        isFulfilled("2&0", 5, (a, b, c) -> c && a, (a, b, c) -> c ? 0 : 2);
        isFulfilled("1|2", 6, (a, b, c) -> b || c, (a, b, c) -> 1);
        isFulfilled("2|1|0", 7, (a, b, c) -> c || b || a, (a, b, c) -> 2);
        isFulfilled("1&2&0", 7, (a, b, c) -> b && c && a, (a, b, c) -> !b ? 1 : !c ? 2 : 0);
        isFulfilled("1&1|1", 2, (a, b, c) -> b, (a, b, c) -> 1);
    }

    private static void andsBindCloserThanOrs() {
        isFulfilled("0&1|2", 7, (a, b, c) -> a && b || c, (a, b, c) -> a ? 1 : 0);
        isFulfilled("0|1&2", 7, (a, b, c) -> a || b && c, (a, b, c) -> 0);
        isFulfilled("0&1|1&2", 7, (a, b, c) -> a && b || b && c, (a, b, c) -> a ? 1 : 0);
        isFulfilled("0&1|2|1&0", 7, (a, b, c) -> a && b || c, (a, b, c) -> a ? 1 : 0);
    }

    private static void parenthesesBindClosest() {
        isFulfilled("(0|1)&2", 7, (a, b, c) -> (a || b) && c, (a, b, c) -> a || b ? 2 : 0);
        isFulfilled("0&(1|2)", 7, (a, b, c) -> a && (b || c), (a, b, c) -> a ? 1 : 0);
        isFulfilled("(0|1)&(2|0)", 7, (a, b, c) -> (a || b) && (c || a), (a, b, c) -> a || b ? 2 : 0);
        isFulfilled("(0&1)|2", 7, (a, b, c) -> a && b || c, (a, b, c) -> a ? 1 : 0);
        isFulfilled("2&((0|1))", 7, (a, b, c) -> c && (a || b), (a, b, c) -> c ? 0 : 2);
        isFulfilled("(2&(1|0&(2|1)))|1", 7, (a, b, c) -> c && (b || a && (c || b)) || b, (a, b, c) -> c ? 1 : 2);
        isFulfilled("((0|1)&2|1)&0", 7, (a, b, c) -> ((a || b) && c || b) && a, (a, b, c) -> {
            boolean isFirstFulfilled = (a || b) && c || b;
            return isFirstFulfilled ? 0 : a || b ? 2 : 0;
        });
        isFulfilled("0&(1&(2&0))", 7, (a, b, c) -> a && b && c, (a, b, c) -> !a ? 0 : !b ? 1 : 2);
        isFulfilled("2|(1|(0|2))", 7, (a, b, c) -> a || b || c, (a, b, c) -> 2);
    }

    /** Skills that are mastered although their own prerequisite is not fulfilled count as mastered. */
    private static void whatIsMasteredNeedNotBeReady() {
        LearningAdvisor x = Advisors.withItems("51;50=0;60=1");
        CHECK.due("skill(1, 6)", x.skill(1, 6), 0);
        CHECK.due("skill(1, 5)", x.skill(1, 5), 1);
        CHECK.due("skill(2, 6)", x.skill(2, 6), 1);
        CHECK.due("advise(1)", x.advise(1), 0);
        x.answer(1, 0);
        CHECK.due("skill(2, 6), since 1 is not mastered now", x.skill(2, 6), 0);
        CHECK.due("explained", Advisors.explained(x, 2), "3:2 6:1 6:0");
    }

    public static void main(String[] args) {
        skillsAndsAndOrs();
        andsBindCloserThanOrs();
        parenthesesBindClosest();
        whatIsMasteredNeedNotBeReady();
        CHECK.end();
    }
}
