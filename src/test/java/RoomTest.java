import java.lang.reflect.Array;
import java.lang.reflect.Field;
import java.lang.reflect.Modifier;
import java.nio.file.Files;
import java.nio.file.Path;
import java.util.ArrayDeque;
import java.util.Collections;
import java.util.Deque;
import java.util.IdentityHashMap;
import java.util.Set;
import java.util.regex.Matcher;
import java.util.regex.Pattern;

/**
 * All calls of one run live in one room, so an advisor holds few objects, and only readCurriculum makes new ones;
 * run from the project's folder.
 */
public final class RoomTest {
    private static final Check CHECK = new Check();
    private static final int MOST_OBJECTS = 300;
    private static final int MOST_NUMBERS = 4000;
    /** The greatest text has 38 skills in its prerequisites, and as many signs. */
    private static final int MOST_OBJECTS_OF_A_CURRICULUM = 100;

    private final Set<Object> objects = Collections.newSetFromMap(new IdentityHashMap<>());
    private int numbers = 0;

    private RoomTest(LearningAdvisor x) throws IllegalAccessException {
        Deque<Object> waiting = new ArrayDeque<>();
        waiting.add(x);
        while (!waiting.isEmpty()) {
            Object object = waiting.remove();
            if (objects.add(object)) {
                look(object, waiting);
            }
        }
    }

    private void look(Object object, Deque<Object> waiting) throws IllegalAccessException {
        Class<?> type = object.getClass();
        if (type.isArray()) {
            numbers += Array.getLength(object);
            for (int i = 0; !type.getComponentType().isPrimitive() && i < Array.getLength(object); i++) {
                keep(Array.get(object, i), waiting);
            }
            return;
        }
        for (Field field : type.getDeclaredFields()) {
            if (!Modifier.isStatic(field.getModifiers())) {
                numbers++;
                field.setAccessible(true);
                if (!field.getType().isPrimitive()) {
                    keep(field.get(object), waiting);
                }
            }
        }
    }

    private static void keep(Object object, Deque<Object> waiting) {
        if (object != null) {
            waiting.add(object);
        }
    }

    private static void aNewAdvisorIsSmall() throws IllegalAccessException {
        RoomTest room = new RoomTest(new LearningAdvisor());
        CHECK.due("objects, at most " + MOST_OBJECTS, Math.max(MOST_OBJECTS, room.objects.size()), MOST_OBJECTS);
        CHECK.due("numbers, at most " + MOST_NUMBERS, Math.max(MOST_NUMBERS, room.numbers), MOST_NUMBERS);
    }

    /** Whatever else is called, the same objects are held. */
    private static void onlyReadingMakesObjects() throws IllegalAccessException {
        LearningAdvisor x = Advisors.withItems("60;50=0;75=0&(1|0)&(0|1);34=2|1&0;90=(((3)))");
        x.save();
        RoomTest before = new RoomTest(x);
        for (int step = 0; step < 20; step++) {
            x.answer(step % 5, step % 3 == 0 ? 0 : 1);
            x.nextDay(1 + step);
            x.addItem(step % 5, step % 5);
            x.path(11);
            x.plan(30, 12, 1);
            x.whatIf(1, 1, 1, 1);
            x.explain(4);
            x.replayed(1, 0);
            x.lasting(0);
            x.write();
            x.append('x', 1);
            x.undo();
            if (step % 7 == 6) x.save();
            if (step % 9 == 8) x.restore();
        }
        RoomTest after = new RoomTest(x);
        CHECK.due("objects", after.objects.size(), before.objects.size());
        CHECK.due("objects that were there before", after.objects.containsAll(before.objects) ? 1 : 0, 1);
        CHECK.due("numbers", after.numbers, before.numbers);
    }

    private static void aCurriculumIsSmall() throws IllegalAccessException {
        String[] texts = {"7", "7;7=0", "99;9=0" + "|0".repeat(37), "99;9=0&(0" + "|0&0".repeat(17) + ")&0",
            "1;12=0;13=1;14=0&1;15=2&(0|1);16=0|1|2;17=5;18=0&1&2&3&4&5;19=(6|7)&(0|1);20=8&7"};
        for (String text : texts) {
            LearningAdvisor x = Advisors.of("7");
            RoomTest before = new RoomTest(x);
            Advisors.read(x, text);
            RoomTest after = new RoomTest(x);
            after.objects.removeAll(before.objects);
            CHECK.due("objects of " + text + ", at most " + MOST_OBJECTS_OF_A_CURRICULUM,
                    Math.max(MOST_OBJECTS_OF_A_CURRICULUM, after.objects.size()), MOST_OBJECTS_OF_A_CURRICULUM);
        }
    }

    /** Objects that are made and thrown away again cannot be seen in what is held, but in the words. */
    private static void objectsAreMadeInConstructorsAndTheReader() throws Exception {
        String source = Files.readString(Path.of("src/main/java/LearningAdvisor.java"));
        String code = source.replaceAll("(?s)/\\*.*?\\*/", "").replaceAll("//.*", "");
        Matcher made = Pattern.compile("\\n( +)(.*)\\bnew (\\w+)").matcher(code);
        while (made.find()) {
            String line = made.group(2);
            boolean isField = line.startsWith("private ");
            boolean isInConstructor = line.matches("(states\\[\\w+\\]|start) = ");
            boolean isReading = made.group(3).matches("Expression|Curriculum");
            CHECK.due("made in a method: " + line + "new " + made.group(3),
                    isField || isInConstructor || isReading ? 1 : 0, 1);
        }
    }

    public static void main(String[] args) throws Exception {
        aNewAdvisorIsSmall();
        onlyReadingMakesObjects();
        aCurriculumIsSmall();
        objectsAreMadeInConstructorsAndTheReader();
        CHECK.end();
    }
}
