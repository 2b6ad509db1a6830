import java.lang.reflect.Field;
import java.lang.reflect.Method;
import java.lang.reflect.Modifier;
import java.util.Set;
import java.util.TreeSet;

/** The public face, and promise 1. */
public final class FaceTest {
    private static final Check CHECK = new Check();

    private static final Set<String> METHODS = Set.of("append/2", "readCurriculum/0", "addItem/2", "item/2",
            "answer/2", "nextDay/1", "mastery/2", "skill/2", "chance/2", "advise/1", "due/1", "path/1", "whatIf/4",
            "plan/3", "account/2", "lasting/1", "explain/1", "explanation/2", "replayed/2", "logEntry/2", "count/1",
            "write/0", "written/1", "undo/0", "save/0", "restore/0");

    private static void theFaceIsTheDocuments() {
        Class<?> c = LearningAdvisor.class;
        CHECK.due("public and final", c.getModifiers(), Modifier.PUBLIC | Modifier.FINAL);
        CHECK.due("constructors", c.getDeclaredConstructors().length, 1);
        CHECK.due("public constructors", c.getConstructors().length, 1);
        Set<String> found = new TreeSet<>();
        for (Method method : c.getDeclaredMethods()) {
            if (!Modifier.isPrivate(method.getModifiers())) {
                found.add(method.getName() + "/" + method.getParameterCount());
                CHECK.due(method.getName(), method.getReturnType().getName(), "int");
            } else {
                String name = method.getName();
                boolean isTaken = METHODS.stream().anyMatch(m -> m.startsWith(name + "/"));
                CHECK.due("private " + name + " bears a public name", isTaken ? 1 : 0, 0);
            }
        }
        CHECK.due("methods", found.toString(), new TreeSet<>(METHODS).toString());
        int constants = 0;
        for (Field field : c.getDeclaredFields()) {
            constants += Modifier.isPrivate(field.getModifiers()) ? 0 : 1;
        }
        CHECK.due("constants", constants, 4);
    }

    private static void theConstantsHaveTheirValues() {
        CHECK.due("NONE", LearningAdvisor.NONE, -1);
        CHECK.due("BAD_ARGUMENT", LearningAdvisor.BAD_ARGUMENT, -2);
        CHECK.due("FULL", LearningAdvisor.FULL, -3);
        CHECK.due("ALREADY", LearningAdvisor.ALREADY, -4);
    }

    private static void aNewObjectHasOneSkillAndNoItems() {
        LearningAdvisor x = new LearningAdvisor();
        int[] counts = {1, 0, 0, 0, 0, 0, 1, 0, 0, 0, 0};
        for (int what = 0; what < counts.length; what++) {
            CHECK.due("count(" + what + ")", x.count(what), counts[what]);
        }
        int[] properties = {0, 0, 1, -1, -1, 0, 1, 0, 70};
        for (int what = 0; what < properties.length; what++) {
            CHECK.due("skill(0, " + what + ")", x.skill(0, what), properties[what]);
        }
        CHECK.due("skill(1, 0)", x.skill(1, 0), -1);
        CHECK.due("item(0, 0)", x.item(0, 0), -1);
        CHECK.due("written(0)", x.written(0), -1);
        CHECK.due("explanation(0, 0)", x.explanation(0, 0), -1);
        CHECK.due("logEntry(0, 0)", x.logEntry(0, 0), -1);
        CHECK.due("restore()", x.restore(), -1);
        CHECK.due("undo()", x.undo(), -1);
        CHECK.due("write()", x.write(), 2);
        CHECK.due("written", Advisors.written(x), "70");
    }

    private static void objectsDoNotShareAnything() {
        LearningAdvisor one = Advisors.withItems("20;30=0");
        LearningAdvisor other = new LearningAdvisor();
        one.answer(0, 1);
        one.save();
        CHECK.due("skills of the other", other.count(0), 1);
        CHECK.due("evidence of the other", other.count(10), 0);
        CHECK.due("snapshot of the other", other.restore(), -1);
    }

    public static void main(String[] args) {
        theFaceIsTheDocuments();
        theConstantsHaveTheirValues();
        aNewObjectHasOneSkillAndNoItems();
        objectsDoNotShareAnything();
        CHECK.end();
    }
}
