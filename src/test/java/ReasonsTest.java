/** Explanations: promises 18 and 19. */
public final class ReasonsTest {
    private static final Check CHECK = new Check();

    private static void explains(LearningAdvisor x, int item, String want) {
        CHECK.due("explain(" + item + ")", Advisors.explained(x, item), want);
    }

    private static void theFirstReasonThatAppliesIsTold() {
        LearningAdvisor x = Advisors.withItems("40;60;60;60=1");
        x.addItem(1, 0);
        x.nextDay(4);
        explains(x, 0, "2:0");
        explains(x, 1, "5:1");
        explains(x, 2, "4:1");
        explains(x, 3, "3:3 6:1");
        explains(x, 4, "4:1");
        x.answer(0, 1);
        explains(x, 0, "1:4");
        x.answer(3, 0);
        explains(x, 3, "1:4");
        x.undo();
        explains(x, 3, "3:3 6:1");
        x.nextDay(1);
        explains(x, 0, "2:0");
    }

    private static void theFirstBlockingSkillIsFollowed() {
        explains(Advisors.withItems("60;40;60=1&0"), 2, "3:2 6:0");
        explains(Advisors.withItems("60;60;60=1|0"), 2, "3:2 6:1");
        explains(Advisors.withItems("60;60;40;60=2&(1|0)"), 3, "3:3 6:1");
        explains(Advisors.withItems("60;60;40;60=2&(1|0)&0"), 3, "3:3 6:1");
        explains(Advisors.withItems("60;60;40;60=2&1&0"), 3, "3:3 6:1");
        explains(Advisors.withItems("60;60;40;60=2&1|0"), 3, "3:3 6:1");
        explains(Advisors.withItems("60;60;40;60=(2&0|1)&1"), 3, "3:3 6:0");
        explains(Advisors.withItems("60;60=0;60=1|0;60=2"), 3, "3:3 6:2 6:1 6:0");
        explains(Advisors.withItems("60;60=0;60;60=2|1"), 3, "3:3 6:2");
        explains(Advisors.withItems("60;40=0;60=1|0;60=1&2"), 3, "3:3 6:2");
        explains(Advisors.withItems("60;60=0;60=1;60=2;60=3;60=4;60=5;60=6;60=7;60=8"), 9,
                "3:9 6:8 6:7 6:6 6:5 6:4 6:3 6:2 6:1 6:0");
    }

    private static void theExplanationStaysUntilTheNext() {
        LearningAdvisor x = Advisors.withItems("60;60=0");
        CHECK.due("explanation(0, 0) at first", x.explanation(0, 0), -1);
        CHECK.due("explain(1)", x.explain(1), 2);
        x.answer(0, 1);
        x.nextDay(1);
        CHECK.due("explain(2)", x.explain(2), -1);
        CHECK.due("explain(-1)", x.explain(-1), -1);
        CHECK.due("explanation(1, 0)", x.explanation(1, 0), 6);
        CHECK.due("explanation(1, 1)", x.explanation(1, 1), 0);
        CHECK.due("explanation(2, 0)", x.explanation(2, 0), -1);
        CHECK.due("explanation(-1, 0)", x.explanation(-1, 0), -1);
        CHECK.due("explanation(2, 2), the first error", x.explanation(2, 2), -1);
        CHECK.due("explanation(0, 2)", x.explanation(0, 2), -2);
        CHECK.due("explanation(0, -1)", x.explanation(0, -1), -2);
        CHECK.due("explain(1)", x.explain(1), 1);
        CHECK.due("explanation(0, 0)", x.explanation(0, 0), 5);
        CHECK.due("explanation(1, 0) of the one before", x.explanation(1, 0), -1);
    }

    public static void main(String[] args) {
        theFirstReasonThatAppliesIsTold();
        theFirstBlockingSkillIsFollowed();
        theExplanationStaysUntilTheNext();
        CHECK.end();
    }
}
