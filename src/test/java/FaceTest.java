import java.io.IOException;
import java.lang.reflect.Constructor;
import java.lang.reflect.Field;
import java.lang.reflect.Method;
import java.lang.reflect.Modifier;
import java.nio.file.Files;
import java.nio.file.Path;
import java.util.ArrayList;
import java.util.HashSet;
import java.util.List;
import java.util.Set;
import java.util.TreeSet;
import java.util.regex.Matcher;
import java.util.regex.Pattern;

/** The document's face and, as far as a test can see them, the rules of LANGUAGE.md. */
public final class FaceTest {
    private static final Path SOURCE = Path.of("src/main/java/QueueKeeper.java");

    private static final String[] FACE = {"feed 5", "text 1", "fault 1", "come 3", "pass 1", "go 0", "run 1",
        "sender 2", "whose 1", "ifRun 2", "firstCut 1", "leastLimit 1", "bestTarget 1", "settle 2", "watch 2",
        "watched 1", "set 1", "bucketFor 1", "bucket 2", "inBucket 2", "order 1", "frame 2", "past 2",
        "eldest 2", "least 1", "rootBy 1", "exact 1", "farthest 2", "flow 2", "uneven 0", "ahead 1", "drain 2",
        "leastTarget 1", "bestQuantum 1", "shared 0", "within 2", "middle 0", "load 1", "count 1"};

    public static void main(String[] args) throws IOException {
        members();
        classesInside();
        source();
        Check.finish("FaceTest");
    }

    private static boolean isHidden(int modifiers) {
        return Modifier.isPrivate(modifiers);
    }

    private static void members() {
        Check.due("public and final", QueueKeeper.class.getModifiers(), Modifier.PUBLIC | Modifier.FINAL);
        Set<String> face = new TreeSet<>(List.of(FACE));
        for (Method m : QueueKeeper.class.getDeclaredMethods()) {
            if (!isHidden(m.getModifiers())) {
                boolean isPlain = m.getModifiers() == Modifier.PUBLIC && m.getReturnType() == int.class;
                Check.due("public int " + m.getName(), isPlain ? 1 : 0, 1);
                Check.due("of the face: " + m.getName(), face.remove(m.getName() + " " + m.getParameterCount()) ? 1 : 0, 1);
                Check.due("throws of " + m.getName(), m.getExceptionTypes().length, m.getName().equals("bucket") ? 2 : 0);
            }
        }
        Check.due("missing methods " + face, face.size(), 0);
        int shown = 0;
        for (Field f : QueueKeeper.class.getDeclaredFields()) {
            shown += isHidden(f.getModifiers()) ? 0 : 1;
        }
        Check.due("shown fields", shown, 1);
        Check.due("NONE", QueueKeeper.NONE, -1);
        Constructor<?>[] constructors = QueueKeeper.class.getDeclaredConstructors();
        Check.due("constructors", constructors.length, 1);
        Check.due("public constructor", constructors[0].getModifiers(), Modifier.PUBLIC);
    }

    private static void classesInside() {
        Set<String> names = new HashSet<>();
        for (String call : FACE) {
            names.add(call.substring(0, call.indexOf(' ')));
        }
        List<Class<?>> all = new ArrayList<>(List.of(QueueKeeper.class.getDeclaredClasses()));
        Check.due("classes: " + all.size(), all.size() < 12 ? 1 : 0, 1);
        for (Class<?> inside : all) {
            Check.due(inside + " is static", Modifier.isStatic(inside.getModifiers()) ? 1 : 0, 1);
            for (Method m : inside.getDeclaredMethods()) {
                Check.due(inside + " bears " + m.getName(), names.contains(m.getName()) ? 1 : 0, 0);
                Check.due(m + " parameters", m.getParameterCount() <= 7 ? 1 : 0, 1);
            }
            checkFields(inside);
        }
        checkFields(QueueKeeper.class);
    }

    private static void checkFields(Class<?> owner) {
        int own = 0;
        for (Field f : owner.getDeclaredFields()) {
            if (Modifier.isStatic(f.getModifiers())) {
                Check.due(f + " is final", Modifier.isFinal(f.getModifiers()) ? 1 : 0, 1);
                Class<?> type = f.getType();
                boolean isConstant = type == int.class || type == int[].class;
                Check.due(f + " is a constant", isConstant ? 1 : 0, 1);
            } else {
                own++;
            }
        }
        Check.due(owner + " fields: " + own, own <= 20 ? 1 : 0, 1);
    }

    private static void source() throws IOException {
        String text = Files.readString(SOURCE);
        String code = text.replaceAll("(?s)/\\*.*?\\*/", "").replaceAll("//.*", "").replaceAll("\"[^\"]*\"", "\"\"");
        String[] ruledOut = {"\\btry\\b", "\\bcatch\\b", "\\bfinally\\b", "\\bsynchronized\\b", "\\bassert\\b", "->",
            "::", "\\bstatic\\s*\\{", "\\bpackage\\b", "Exact\\s*\\(", "\\bdouble\\b", "\\bfloat\\b", "\\bThread\\b",
            "\\bRandom\\b", "System\\.(?!arraycopy)", "\\bordinal\\b", "\\bhashCode\\b", "\\.equals\\b", "\\.length\\s*\\[",
            "\\bwhile\\s*\\(true\\)"};
        for (String pattern : ruledOut) {
            Check.due("source has " + pattern, Pattern.compile(pattern).matcher(code).find() ? 1 : 0, 0);
        }
        Matcher imports = Pattern.compile("\\bimport\\s+([\\w.]+)").matcher(code);
        while (imports.find()) {
            Check.due("import " + imports.group(1), imports.group(1).equals("java.util.NoSuchElementException") ? 1 : 0, 1);
        }
        Matcher throwing = Pattern.compile("\\bthrow\\s+new\\s+(\\w+)").matcher(code);
        while (throwing.find()) {
            boolean isDue = throwing.group(1).equals("IndexOutOfBoundsException")
                || throwing.group(1).equals("NoSuchElementException");
            Check.due("throw " + throwing.group(1), isDue ? 1 : 0, 1);
        }
        for (char sign : text.toCharArray()) {
            if (sign > 127) {
                Check.due("sign " + (int) sign, 1, 0);
            }
        }
        methodLengths(text);
    }

    /** By the indents of this file: a method's last line is a brace as far in as its first line. */
    private static void methodLengths(String text) {
        String[] lines = text.split("\n");
        for (int i = 0; i < lines.length; i++) {
            Matcher head = Pattern.compile("^( {4}| {8})(?!.*\\bclass\\b)[a-z].*\\) .*\\{$").matcher(lines[i]);
            if (!head.matches() || lines[i].trim().matches("(if|for|while|switch|return|else)\\b.*")) {
                continue;
            }
            int end = i;
            while (end < lines.length && !lines[end].equals(head.group(1) + "}")) {
                end++;
            }
            Check.due("lines of " + lines[i].trim(), end - i <= 60 ? 1 : 0, 1);
        }
    }
}
