/** The text and the curriculum: promises 2, 3, 23 and 24. */
public final class CurriculumTest {
    private static final Check CHECK = new Check();

    private static void appendTakesCharactersUpToItsLimits() {
        LearningAdvisor x = new LearningAdvisor();
        CHECK.due("append(0, 1)", x.append(0, 1), 1);
        CHECK.due("append(127, 1)", x.append(127, 1), 2);
        CHECK.due("append(-1, 1)", x.append(-1, 1), -2);
        CHECK.due("append(128, 1)", x.append(128, 1), -2);
        CHECK.due("append(49, 0)", x.append(49, 0), -2);
        CHECK.due("append(49, -1)", x.append(49, -1), -2);
        CHECK.due("append(49, 81)", x.append(49, 81), -2);
        CHECK.due("append(49, greatest)", x.append(49, Integer.MAX_VALUE), -2);
        CHECK.due("append(least, 1)", x.append(Integer.MIN_VALUE, 1), -2);
        CHECK.due("append(49, 79)", x.append(49, 79), -3);
        CHECK.due("count(9) after errors", x.count(9), 2);
        CHECK.due("append(49, 78)", x.append(49, 78), 80);
        CHECK.due("append(49, 1)", x.append(49, 1), -3);
        CHECK.due("append(128, 1) before FULL", x.append(128, 1), -2);
        CHECK.due("count(9)", x.count(9), 80);
        LearningAdvisor y = new LearningAdvisor();
        CHECK.due("append(49, 80)", y.append(49, 80), 80);
    }

    private static void reads(String text, int want) {
        CHECK.due("read " + text, Advisors.read(new LearningAdvisor(), text), want);
    }

    private static void numbersAreRead() {
        reads("", -100);
        reads("1", 1);
        reads("99", 1);
        reads("10", 1);
        reads("0", -100);
        reads("05", -100);
        reads("100", -102);
        reads("7x", -101);
        reads("x", -100);
        reads(" 7", -100);
        reads("7 ", -101);
        reads(";", -100);
        reads("7;", -102);
        reads("7;;", -102);
        reads("7;0", -102);
        reads("7;1=", -104);
        reads("7:", -101);
        reads("/", -100);
        LearningAdvisor x = new LearningAdvisor();
        Advisors.read(x, "7;99;10");
        CHECK.due("pass mark 0", x.skill(0, 8), 7);
        CHECK.due("pass mark 1", x.skill(1, 8), 99);
        CHECK.due("pass mark 2", x.skill(2, 8), 10);
    }

    private static void prerequisitesAreRead() {
        reads("7=", -102);
        reads("7=0", -102);
        reads("7=(", -103);
        reads("7=(0", -103);
        reads("7=x", -102);
        reads("7;7=0", 2);
        reads("7;7=1", -104);
        reads("7;7==", -104);
        reads("7;7=00", -105);
        reads("7;7=0&", -106);
        reads("7;7=0&&", -106);
        reads("7;7=0|&", -106);
        reads("7;7=&0", -104);
        reads("7;7=()", -105);
        reads("7;7=(0", -106);
        reads("7;7=(0;", -106);
        reads("7;7=(0)", 2);
        reads("7;7=(0))", -107);
        reads("7;7=0)", -105);
        reads("7;7=(0)(", -107);
        reads("7;7=(0)0", -107);
        reads("7;7=0=", -105);
        reads("7;7=0;7=1;7=2&(1|0)", 4);
        reads("7;7=0;7=1;7=2&(1|3)", -117);
        reads("7;7=(((((0)))))", 2);
        reads("7;7=((((((0))))))", -109);
        reads("7;7=(((((0)&(0)))))", 2);
        reads("7;7=(((((0&(0))))))", -111);
        reads("7;7=((((0))))&((((0))))", 2);
    }

    private static void tenSkillsAreTheMost() {
        reads("1;1;1;1;1;1;1;1;1;1", 10);
        reads("1;1;1;1;1;1;1;1;1;1;", -119);
        reads("1;1;1;1;1;1;1;1;1;1;1", -119);
        reads("1;1;1;1;1;1;1;1;1;1=8", 10);
        reads("1;1;1;1;1;1;1;1;1;1=9", -120);
    }

    private static void aLongTextIsRead() {
        StringBuilder text = new StringBuilder("99;99=0");
        while (text.length() + 2 <= 79) {
            text.append("&0");
        }
        reads(text.toString(), 2);
        reads(text + "&", -180);
        reads(text.append("&").toString(), -180);
    }

    private static void readingDiscardsWhatWas() {
        LearningAdvisor x = Advisors.withItems("20;30=0");
        x.answer(1, 1);
        x.answer(0, 0);
        x.nextDay(9);
        x.explain(0);
        x.write();
        CHECK.due("read", Advisors.read(x, "40;50"), 2);
        int[] counts = {2, 0, 0, 0, 0, 2, 2, 0, 0, 0, 0};
        for (int what = 0; what < counts.length; what++) {
            CHECK.due("count(" + what + ")", x.count(what), counts[what]);
        }
        for (int skill = 0; skill < 2; skill++) {
            CHECK.due("interval", x.skill(skill, 2), 1);
            CHECK.due("due day", x.skill(skill, 3), -1);
            CHECK.due("practice day", x.skill(skill, 4), -1);
            CHECK.due("account 0", x.account(skill, 0), 0);
            CHECK.due("account 1", x.account(skill, 1), 0);
            CHECK.due("account 3", x.account(skill, 3), 0);
            CHECK.due("replayed", x.replayed(skill, 0), 0);
        }
        CHECK.due("undo()", x.undo(), -1);
        CHECK.due("written text stays", Advisors.written(x), "20;30=0");
        CHECK.due("explanation stays", x.explanation(0, 0), 2);
        x.addItem(0, 0);
        CHECK.due("item(0, 2)", x.item(0, 2), 0);
        CHECK.due("item(0, 4)", x.item(0, 4), -1);
        CHECK.due("answer(0, 1)", x.answer(0, 1), 1);
    }

    private static void anErrorChangesNothingButTheText() {
        LearningAdvisor x = Advisors.withItems("20;30=0");
        x.answer(0, 1);
        x.nextDay(3);
        CHECK.due("wrong text", Advisors.read(x, "20;30=0;40=2"), -111);
        CHECK.due("count(9)", x.count(9), 0);
        CHECK.due("count(0)", x.count(0), 2);
        CHECK.due("count(1)", x.count(1), 2);
        CHECK.due("count(2)", x.count(2), 3);
        CHECK.due("count(7)", x.count(7), 4);
        CHECK.due("count(8)", x.count(8), 2);
        CHECK.due("skill(1, 7)", x.skill(1, 7), 1);
        CHECK.due("skill(1, 8)", x.skill(1, 8), 30);
        CHECK.due("read()", x.readCurriculum(), -100);
    }

    private static void writes(String text, String want) {
        LearningAdvisor x = new LearningAdvisor();
        Advisors.read(x, text);
        CHECK.due("write " + text, x.write(), want.length());
        CHECK.due("write " + text, Advisors.written(x), want);
    }

    private static void onlyNeededParenthesesAreWritten() {
        writes("7;70", "7;70");
        writes("9;10;11;99", "9;10;11;99");
        writes("1;2=(0)", "1;2=0");
        writes("1;2=(((((0)))))", "1;2=0");
        writes("1;2;3=(0|1)", "1;2;3=0|1");
        writes("1;2;3=(0|1)&0", "1;2;3=(0|1)&0");
        writes("1;2;3=((0|1))&0", "1;2;3=(0|1)&0");
        writes("1;2;3=0&((0)|((1)))", "1;2;3=0&(0|1)");
        writes("1;2;3=0&(1&0)&(0&(1&(0|1)))", "1;2;3=0&1&0&0&1&(0|1)");
        writes("1;2;3=0|(1|0)|(0&1)", "1;2;3=0|1|0|0&1");
        writes("1;2;3=((0&1)|(0))|1", "1;2;3=0&1|0|1");
        writes("1;2;3=((0|1)&(1|0)|0)&1", "1;2;3=((0|1)&(1|0)|0)&1");
        writes("1;2;3=((0|(1|0)))&1", "1;2;3=(0|1|0)&1");
        writes("1;2;3=(((0&1)))&1", "1;2;3=0&1&1");
        writes("1;2;3=0&(0|1&(0|1&(0|1&(0|1&(0|1)))))", "1;2;3=0&(0|1&(0|1&(0|1&(0|1&(0|1)))))");
    }

    private static void theDeepestExpressionIsWhole() {
        String deep = "1;99;60;50=1|0&(1|0&(1|0&(1|0&(1|0&(1|0&2)))))";
        writes(deep, deep);
        LearningAdvisor x = Advisors.withItems(deep);
        CHECK.due("skill(3, 7)", x.skill(3, 7), 7);
        CHECK.due("skill(3, 6)", x.skill(3, 6), 0);
        x.answer(2, 1);
        CHECK.due("skill(3, 6)", x.skill(3, 6), 1);
        LearningAdvisor y = Advisors.withItems("1;99;60;60=0&(0&(0&(0&(0&(0&2|1)|1)|1)|1)|1)|1");
        CHECK.due("explain(3)", Advisors.explained(y, 3), "3:3 6:2");
    }

    private static void theWrittenTextStaysUntilTheNext() {
        LearningAdvisor x = new LearningAdvisor();
        Advisors.read(x, "11;22=0");
        CHECK.due("written(0) at first", x.written(0), -1);
        CHECK.due("write()", x.write(), 7);
        Advisors.read(x, "5");
        CHECK.due("written", Advisors.written(x), "11;22=0");
        CHECK.due("written(-1)", x.written(-1), -1);
        CHECK.due("written(7)", x.written(7), -1);
        CHECK.due("written(greatest)", x.written(Integer.MAX_VALUE), -1);
        CHECK.due("write()", x.write(), 1);
        CHECK.due("written", Advisors.written(x), "5");
        CHECK.due("written(1)", x.written(1), -1);
    }

    public static void main(String[] args) {
        appendTakesCharactersUpToItsLimits();
        numbersAreRead();
        prerequisitesAreRead();
        tenSkillsAreTheMost();
        aLongTextIsRead();
        readingDiscardsWhatWas();
        anErrorChangesNothingButTheText();
        onlyNeededParenthesesAreWritten();
        theDeepestExpressionIsWhole();
        theWrittenTextStaysUntilTheNext();
        CHECK.end();
    }
}
