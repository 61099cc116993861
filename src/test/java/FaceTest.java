import java.lang.reflect.Constructor;
import java.lang.reflect.Field;
import java.lang.reflect.Method;
import java.lang.reflect.Modifier;
import java.util.HashSet;
import java.util.List;
import java.util.Set;
import java.util.TreeSet;

/** The document's face, and that nothing else is shown; RulesTest has the other rules of LANGUAGE.md. */
public final class FaceTest {
    private static final String[] FACE = {"feed 5", "text 1", "fault 1", "come 3", "pass 1", "go 0", "run 1",
        "sender 2", "whose 1", "ifRun 2", "firstCut 1", "leastLimit 1", "bestTarget 1", "settle 2", "watch 2",
        "watched 1", "set 1", "bucketFor 1", "bucket 2", "inBucket 2", "order 1", "frame 2", "past 2",
        "eldest 2", "least 1", "rootBy 1", "exact 1", "farthest 2", "flow 2", "uneven 0", "ahead 1", "drain 2",
        "leastTarget 1", "bestQuantum 1", "shared 0", "within 2", "middle 0", "load 1", "count 1"};

    public static void main(String[] args) {
        members();
        classesInside();
        Check.finish("FaceTest");
    }

    private static boolean isHidden(int modifiers) {
        return Modifier.isPrivate(modifiers);
    }

    private static void members() {
        Check.due("public and final", QueueKeeper.class.getModifiers(), Modifier.PUBLIC | Modifier.FINAL);
        Set<String> face = new TreeSet<>(List.of(FACE));
        for (Method m : QueueKeeper.class.getDeclaredMethods()) {
            if (!isHidden(m.getModifiers())) {
                boolean isPlain = m.getModifiers() == Modifier.PUBLIC && m.getReturnType() == int.class;
                Check.due("public int " + m.getName(), isPlain ? 1 : 0, 1);
                Check.due("of the face: " + m.getName(), face.remove(m.getName() + " " + m.getParameterCount()) ? 1 : 0, 1);
                Check.due("throws of " + m.getName(), m.getExceptionTypes().length, m.getName().equals("bucket") ? 2 : 0);
            }
        }
        Check.due("missing methods " + face, face.size(), 0);
        int shown = 0;
        for (Field f : QueueKeeper.class.getDeclaredFields()) {
            shown += isHidden(f.getModifiers()) ? 0 : 1;
        }
        Check.due("shown fields", shown, 1);
        Check.due("NONE", QueueKeeper.NONE, -1);
        Constructor<?>[] constructors = QueueKeeper.class.getDeclaredConstructors();
        Check.due("constructors", constructors.length, 1);
        Check.due("public constructor", constructors[0].getModifiers(), Modifier.PUBLIC);
    }

    private static void classesInside() {
        Set<String> names = new HashSet<>();
        for (String call : FACE) {
            names.add(call.substring(0, call.indexOf(' ')));
        }
        for (Class<?> inside : QueueKeeper.class.getDeclaredClasses()) {
            Check.due(inside + " is static", Modifier.isStatic(inside.getModifiers()) ? 1 : 0, 1);
            for (Method m : inside.getDeclaredMethods()) {
                Check.due(inside + " bears " + m.getName(), names.contains(m.getName()) ? 1 : 0, 0);
            }
        }
    }
}
