/**
 * The bounds of the text, of what is read from it and of what is written: promises 2, 3, 23 and 24, and
 * the sentences of 'Skills', 'Text' and 'Written expressions'.
 */
public final class TextBoundsTest {
    private static final Check CHECK = new Check();
    private static final String TEN_SKILLS = "1;1;1;1;1;1;1;1;1;1";
    /** Ten skills in 80 characters. */
    private static final String FULL_TEXT =
            "1;12=0;13=1;14=0&1;15=2&(0|1);16=0|1|2;17=5;18=0&1&2&3&4&5;19=(6|7)&(0|1);20=8&7";

    private static int lengthOf(LearningAdvisor x) {
        return x.count(9);
    }

    private static void reads(String text, int want) {
        CHECK.due("read " + text, Advisors.read(new LearningAdvisor(), text), want);
    }

    private static void codesAreFrom0To127() {
        for (int code = 0; code <= 127; code++) {
            CHECK.due("append(" + code + ", 1)", new LearningAdvisor().append(code, 1), 1);
        }
        int[] outside = {-1, 128, 129, 255, 256, 128 + '7', 65536 + '7', Integer.MIN_VALUE, Integer.MAX_VALUE};
        LearningAdvisor x = new LearningAdvisor();
        for (int code : outside) {
            CHECK.due("append(" + code + ", 1)", x.append(code, 1), -2);
        }
        CHECK.due("length after refused calls", lengthOf(x), 0);
    }

    private static void countsAreFrom1To80() {
        for (int count = 1; count <= 80; count++) {
            CHECK.due("append(55, " + count + ")", new LearningAdvisor().append('7', count), count);
        }
        int[] outside = {0, -1, 81, 82, 160, Integer.MIN_VALUE, Integer.MAX_VALUE};
        LearningAdvisor x = new LearningAdvisor();
        for (int count : outside) {
            CHECK.due("append(55, " + count + ")", x.append('7', count), -2);
        }
        CHECK.due("length after refused calls", lengthOf(x), 0);
    }

    private static void theTextHas80CharactersAtMost() {
        for (int length = 1; length < 80; length++) {
            LearningAdvisor x = new LearningAdvisor();
            x.append('7', length);
            CHECK.due("append, the first that is too many", x.append(';', 81 - length), -3);
            CHECK.due("length after FULL", lengthOf(x), length);
            CHECK.due("append, the last that is not too many", x.append(';', 80 - length), 80);
            CHECK.due("append to a full text", x.append(';', 1), -3);
            CHECK.due("length of a full text", lengthOf(x), 80);
        }
    }

    private static void whatIsRefusedDoesNotStandInTheText() {
        LearningAdvisor x = new LearningAdvisor();
        Advisors.type(x, "12;34=");
        x.append('9', 75);
        x.append(-1, 1);
        x.append('9', 0);
        Advisors.type(x, "0");
        CHECK.due("read", x.readCurriculum(), 2);
        CHECK.due("pass mark", x.skill(1, 8), 34);
        CHECK.due("prerequisite", x.skill(1, 7), 1);
    }

    private static void badArgumentComesBeforeFull() {
        LearningAdvisor x = new LearningAdvisor();
        x.append('7', 80);
        CHECK.due("append(-1, 1)", x.append(-1, 1), -2);
        CHECK.due("append(128, 80)", x.append(128, 80), -2);
        CHECK.due("append(55, 81)", x.append('7', 81), -2);
        CHECK.due("append(55, 0)", x.append('7', 0), -2);
        CHECK.due("append(55, greatest)", x.append('7', Integer.MAX_VALUE), -2);
    }

    private static void theTextIsEmptyAfterItWasRead() {
        LearningAdvisor x = new LearningAdvisor();
        CHECK.due("read of 80 characters", Advisors.read(x, FULL_TEXT.substring(0, 79) + "&"), -179);
        CHECK.due("length after an error", lengthOf(x), 0);
        CHECK.due("append to the empty text", x.append('7', 80), 80);
        CHECK.due("read", x.readCurriculum(), -102);
        CHECK.due("read of nothing", x.readCurriculum(), -100);
        CHECK.due("read of one skill", Advisors.read(x, "7"), 1);
        CHECK.due("length after success", lengthOf(x), 0);
        CHECK.due("read of nothing again", x.readCurriculum(), -100);
    }

    private static void passMarksAreFrom1To99() {
        for (int mark = 1; mark <= 99; mark++) {
            LearningAdvisor x = new LearningAdvisor();
            CHECK.due("read " + mark, Advisors.read(x, "" + mark), 1);
            CHECK.due("pass mark", x.skill(0, 8), mark);
        }
        reads("0", -100);
        reads("00", -100);
        reads("01", -100);
        reads("09", -100);
        reads("100", -102);
        reads("999", -102);
        reads("7;0", -102);
        reads("7;07", -102);
        reads("7;100", -104);
    }

    private static void aCurriculumHas1To10Skills() {
        reads("", -100);
        StringBuilder text = new StringBuilder();
        for (int skills = 1; skills <= 10; skills++) {
            text.append(skills == 1 ? "" : ";").append(skills);
            LearningAdvisor x = new LearningAdvisor();
            CHECK.due("read " + text, Advisors.read(x, text.toString()), skills);
            CHECK.due("count(0)", x.count(0), skills);
            CHECK.due("the last skill", x.skill(skills - 1, 8), skills);
            CHECK.due("the first that is none", x.skill(skills, 8), -1);
            CHECK.due("skill -1", x.skill(-1, 8), -1);
        }
    }

    private static void theSignBeforeAnEleventhSkillCannotStand() {
        reads(TEN_SKILLS, 10);
        reads(TEN_SKILLS + ";", -119);
        reads(TEN_SKILLS + ";1", -119);
        reads(TEN_SKILLS + ";;", -119);
        reads(TEN_SKILLS + "0", 10);
        reads(TEN_SKILLS + "0;", -120);
        reads(TEN_SKILLS + "=8", 10);
        reads(TEN_SKILLS + "=8;1", -121);
        reads(TEN_SKILLS.substring(0, 17) + ";1", 10);
    }

    private static void aPrerequisiteHasLowerNumbersOnly() {
        StringBuilder before = new StringBuilder("5");
        for (int skill = 1; skill < 10; skill++) {
            before.append(";5");
            for (int digit = 0; digit < 10; digit++) {
                int error = -100 - before.length() - 1;
                reads(before + "=" + digit, digit < skill ? skill + 1 : error);
                reads(before + "=0&" + digit, digit < skill ? skill + 1 : error - 2);
            }
        }
        reads("5=0", -102);
        reads("70=0", -103);
    }

    private static void parenthesesAreNestedAtMost5Deep() {
        for (int deep = 0; deep <= 5; deep++) {
            String open = "(".repeat(deep);
            String close = ")".repeat(deep);
            reads("7;7=" + open + "0" + close, 2);
            reads("7;7=" + open + "0" + close + ")", -105 - 2 * deep);
            reads("7;7=" + open + "0&" + "(".repeat(5 - deep) + "0" + ")".repeat(5), 2);
            reads("7;7=" + open + "0&" + "(".repeat(6 - deep) + "0", -111);
        }
        reads("7;7=((((((0))))))", -109);
        reads("7;7=(((((", -109);
        reads("7;7=((((((", -109);
        reads("7;7=(((((((((", -109);
    }

    /** A parenthesis that was closed does not count, and more than 5 may stand side by side. */
    private static void closedParenthesesAreNotNested() {
        reads("7;7=(0)&(0)&(0)&(0)&(0)&(0)&(0)", 2);
        reads("7;7=(((((0)))))|(((((0)))))&(((((0)))))", 2);
        reads("7;7=((((0)&(0)|(0))&(0)|(0))&(0))", 2);
        reads("7;7=(((((0)))))&((((((0", -121);
        reads("7;7=(0);7=(((((1)))))", 3);
        reads("7;7=(0);7=((((((1", -115);
    }

    /** An or of ands of ors, on each of the levels that parentheses can make. */
    private static void theDeepestExpressionIsWhole() {
        String deep = "1|0&(1|0&(1|0&(1|0&(1|0&(1|0&2)))))";
        LearningAdvisor x = Advisors.withItems("1;99;60;50=" + deep);
        CHECK.due("skills of the deepest expression", x.skill(3, 7), 7);
        CHECK.due("not fulfilled", x.skill(3, 6), 0);
        CHECK.due("write()", x.write(), 11 + deep.length());
        CHECK.due("written", Advisors.written(x), "1;99;60;50=" + deep);
        x.answer(2, 1);
        CHECK.due("fulfilled by its deepest part", x.skill(3, 6), 1);
        LearningAdvisor y = Advisors.withItems("1;99;60;60=0&(0&(0&(0&(0&(0&2|1)|1)|1)|1)|1)|1");
        CHECK.due("explain(3)", y.explain(3), 2);
        CHECK.due("blocked by its deepest part", y.explanation(1, 1), 2);
    }

    /** Of all characters, only those that are told can continue; each other one is the first that cannot. */
    private static void onlyTheseContinue(String before, String allowed) {
        int here = -100 - before.length();
        for (char code = 0; code <= 127; code++) {
            int answer = Advisors.read(new LearningAdvisor(), before + code);
            boolean isAllowed = allowed.indexOf(code) >= 0;
            CHECK.due("after " + before + " the character " + (int) code + " can stand", answer == here ? 0 : 1,
                    isAllowed ? 1 : 0);
            if (isAllowed && answer < 0) {
                CHECK.due("after " + before + code + " the text ends too early", answer, here - 1);
            }
        }
    }

    private static void theFirstCharacterThatCannotContinueIsTold() {
        onlyTheseContinue("", "123456789");
        onlyTheseContinue("7", "0123456789=;");
        onlyTheseContinue("70", "=;");
        onlyTheseContinue("7;", "123456789");
        onlyTheseContinue("7;7", "0123456789=;");
        onlyTheseContinue("7;7=", "0(");
        onlyTheseContinue("7;7=0", "&|;");
        onlyTheseContinue("7;7=0&", "0(");
        onlyTheseContinue("7;7=0|", "0(");
        onlyTheseContinue("7;7=(", "0(");
        onlyTheseContinue("7;7=(0", "&|)");
        onlyTheseContinue("7;7=(0&", "0(");
        onlyTheseContinue("7;7=(0)", "&|;");
        onlyTheseContinue("7;7=((((", "0(");
        onlyTheseContinue("7;7=(((((", "0");
        onlyTheseContinue("7;7=(((((0)", "&|)");
        onlyTheseContinue("7;7=(((((0)&", "0(");
        onlyTheseContinue("7;7=0;", "123456789");
        onlyTheseContinue("7;7;7=", "01(");
        onlyTheseContinue(TEN_SKILLS, "0123456789=");
        onlyTheseContinue(TEN_SKILLS + "0", "=");
        onlyTheseContinue(TEN_SKILLS + "=", "012345678(");
        onlyTheseContinue(TEN_SKILLS + "=8", "&|");
    }

    /** Every beginning of this text is a curriculum, or ends too early and is told by its length. */
    private static void aTextThatEndsTooEarlyIsToldByItsLength() {
        String text = "70;9=0;12=(0|1)&0;5=2";
        String isWhole = ".++.+.+.++.....+.+.+.+";
        int skills = 1;
        for (int length = 0; length <= text.length(); length++) {
            String start = text.substring(0, length);
            skills += start.endsWith(";") ? 1 : 0;
            reads(start, isWhole.charAt(length) == '+' ? skills : -100 - length);
        }
    }

    private static void errorOffsetsReachFrom0To80() {
        StringBuilder and = new StringBuilder("99;99=0");
        for (int i = 0; i < 36; i++) {
            and.append("&0");
        }
        reads("x", -100);
        reads("x".repeat(80), -100);
        reads(and.toString(), 2);
        reads(and + "&", -180);
        reads(and + "x", -179);
        reads(and + ";", -180);
        reads(and.substring(0, 78) + "x", -178);
    }

    private static void theFirstOfSeveralErrorsIsTold() {
        reads("7;x;y;0", -102);
        reads("0=", -100);
        reads("7;7=1&(", -104);
        reads("7;7=(0;7=0", -106);
        reads("100;100", -102);
    }

    private static void aFullTextIsReadAndWritten() {
        String[] texts = {FULL_TEXT, "99;9=0" + "|0".repeat(37), "99;9=0&(0" + "|0&0".repeat(17) + ")&0"};
        for (String text : texts) {
            LearningAdvisor x = new LearningAdvisor();
            Advisors.type(x, text);
            CHECK.due("length of " + text, lengthOf(x), 80);
            CHECK.due("read " + text, x.readCurriculum(), text.equals(FULL_TEXT) ? 10 : 2);
            CHECK.due("write()", x.write(), 80);
            CHECK.due("written(79)", x.written(79), text.charAt(79));
            CHECK.due("written(80)", x.written(80), -1);
            CHECK.due("written", Advisors.written(x), text);
        }
    }

    private static void nothingIsWrittenAtFirst() {
        LearningAdvisor x = new LearningAdvisor();
        int[] indices = {0, 1, -1, 79, 80, Integer.MIN_VALUE, Integer.MAX_VALUE};
        for (int index : indices) {
            CHECK.due("written(" + index + ")", x.written(index), -1);
        }
        CHECK.due("write()", x.write(), 2);
        CHECK.due("written(0)", x.written(0), '7');
        CHECK.due("written(1)", x.written(1), '0');
        CHECK.due("written(2)", x.written(2), -1);
        CHECK.due("written(-1)", x.written(-1), -1);
        CHECK.due("written(least)", x.written(Integer.MIN_VALUE), -1);
        CHECK.due("written(greatest)", x.written(Integer.MAX_VALUE), -1);
    }

    private static void aShorterWrittenTextLeavesNothingOfALonger() {
        LearningAdvisor x = Advisors.of("11;12=0;13=1");
        CHECK.due("write()", x.write(), 12);
        Advisors.read(x, "5");
        CHECK.due("written before the next write", Advisors.written(x), "11;12=0;13=1");
        CHECK.due("write()", x.write(), 1);
        CHECK.due("written(1)", x.written(1), -1);
        CHECK.due("written(11)", x.written(11), -1);
        CHECK.due("write() again", x.write(), 1);
        CHECK.due("written", Advisors.written(x), "5");
    }

    private static void writes(String text, String want) {
        LearningAdvisor x = Advisors.of(text);
        CHECK.due("write " + text, x.write(), want.length());
        CHECK.due("write " + text, Advisors.written(x), want);
    }

    private static void marksOfOneAndTwoDigitsAreWritten() {
        writes("1", "1");
        writes("9", "9");
        writes("10", "10");
        writes("99", "99");
        writes("1;10;9;99;90;11", "1;10;9;99;90;11");
    }

    private static void onlyAnOrInAnAndHasParentheses() {
        writes("1;1;1=(0|1)&0", "1;1;1=(0|1)&0");
        writes("1;1;1=0&(0|1)", "1;1;1=0&(0|1)");
        writes("1;1;1=0&(0|1)&0", "1;1;1=0&(0|1)&0");
        writes("1;1;1=(0&1)|0", "1;1;1=0&1|0");
        writes("1;1;1=0|(0&1)", "1;1;1=0|0&1");
        writes("1;1;1=(0&1)&0", "1;1;1=0&1&0");
        writes("1;1;1=0&(1&0)", "1;1;1=0&1&0");
        writes("1;1;1=(0|1)|0", "1;1;1=0|1|0");
        writes("1;1;1=0|(1|0)", "1;1;1=0|1|0");
        writes("1;1;1=(0|1)", "1;1;1=0|1");
        writes("1;1;1=(0)&(1)", "1;1;1=0&1");
        writes("1;1;1=((0|1)&0)|1", "1;1;1=(0|1)&0|1");
        writes("1;1;1=(0&(0|1))&1", "1;1;1=0&(0|1)&1");
        writes("1;1;1=(((((0|1)))))&1", "1;1;1=(0|1)&1");
        writes("1;1;1=(0|(1|(0|(1|(0|1)))))&1", "1;1;1=(0|1|0|1|0|1)&1");
        writes("1;1;1=0&(1&(0&(1&(0&(1)))))", "1;1;1=0&1&0&1&0&1");
    }

    public static void main(String[] args) {
        codesAreFrom0To127();
        countsAreFrom1To80();
        theTextHas80CharactersAtMost();
        whatIsRefusedDoesNotStandInTheText();
        badArgumentComesBeforeFull();
        theTextIsEmptyAfterItWasRead();
        passMarksAreFrom1To99();
        aCurriculumHas1To10Skills();
        theSignBeforeAnEleventhSkillCannotStand();
        aPrerequisiteHasLowerNumbersOnly();
        parenthesesAreNestedAtMost5Deep();
        closedParenthesesAreNotNested();
        theDeepestExpressionIsWhole();
        theFirstCharacterThatCannotContinueIsTold();
        aTextThatEndsTooEarlyIsToldByItsLength();
        errorOffsetsReachFrom0To80();
        theFirstOfSeveralErrorsIsTold();
        aFullTextIsReadAndWritten();
        nothingIsWrittenAtFirst();
        aShorterWrittenTextLeavesNothingOfALonger();
        marksOfOneAndTwoDigitsAreWritten();
        onlyAnOrInAnAndHasParentheses();
        CHECK.end();
    }
}
