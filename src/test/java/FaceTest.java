import java.lang.reflect.Constructor;
import java.lang.reflect.Field;
import java.lang.reflect.Method;
import java.lang.reflect.Modifier;
import java.util.Arrays;
import java.util.Set;
import java.util.TreeSet;

/** The class shows the document's face and nothing else, and keeps to what LANGUAGE.md counts. */
public final class FaceTest {
    private static final String[] FACE = {
        "int sherd(int)", "int step(int, int, int)", "int close(int)", "boolean mark(int, int, boolean)",
        "boolean paint(int, int, int)", "boolean thick(int, int)", "boolean circle(int, int)",
        "boolean tell(int, int)", "int look(int, int)", "int edge(int, int, int)", "long area(int, int)",
        "int fit(int, int, int, int, int)", "int fitted(int)", "int spans(int, int)", "int span(int, int)",
        "int two(int, int)", "int apart(int)", "int join(int, int, int, int, int)",
        "int hand(int, int, int, int, int)", "int part(int)", "int joined(int, int)", "int round()",
        "int lies(int)", "int order()", "int groups()", "long group(int, int)", "int undo(int)"};

    private static int wrong = 0;

    public static void main(String[] args) {
        Set<String> shown = new TreeSet<>();
        Set<String> names = new TreeSet<>();
        for (Method m : SherdTable.class.getDeclaredMethods()) {
            if (Modifier.isPublic(m.getModifiers())) {
                shown.add(textOf(m));
                names.add(m.getName());
            }
        }
        due("the public methods", shown.equals(new TreeSet<>(Arrays.asList(FACE))), shown.toString());
        due("a final class", Modifier.isFinal(SherdTable.class.getModifiers()), "not final");
        for (Constructor<?> c : SherdTable.class.getDeclaredConstructors()) {
            due("the constructor", Modifier.isPublic(c.getModifiers()) && c.getParameterCount() == 0, c.toString());
        }
        hidesTheRest();
        throwsWhatItTells();
        checkClass(SherdTable.class, names);
        Class<?>[] inside = SherdTable.class.getDeclaredClasses();
        due("at most twelve classes", inside.length + 1 <= 12, inside.length + 1 + " classes");
        for (Class<?> c : inside) {
            due(c.getSimpleName() + " is static and not public", Modifier.isStatic(c.getModifiers())
                    && !Modifier.isPublic(c.getModifiers()) && !Modifier.isProtected(c.getModifiers()), "it isn't");
            checkClass(c, names);
        }
        System.out.println(wrong == 0 ? "all answers are as due" : wrong + " answers are not as due");
        if (wrong != 0) {
            System.exit(1);
        }
    }

    private static void due(String what, boolean holds, String found) {
        if (!holds) {
            wrong++;
            System.out.println(what + ": " + found);
        }
    }

    private static String textOf(Method m) {
        StringBuilder text = new StringBuilder(m.getReturnType().getName()).append(' ').append(m.getName()).append('(');
        for (int k = 0; k < m.getParameterCount(); k++) {
            text.append(k > 0 ? ", " : "").append(m.getParameterTypes()[k].getName());
        }
        return text.append(')').toString();
    }

    private static void hidesTheRest() {
        for (Field f : SherdTable.class.getDeclaredFields()) {
            boolean shown = f.getName().equals("NONE");
            due(f.getName() + " is hidden", shown || Modifier.isPrivate(f.getModifiers()), "it isn't");
            due(f.getName() + " is final where it is static",
                    !Modifier.isStatic(f.getModifiers()) || Modifier.isFinal(f.getModifiers()), "it isn't");
        }
        for (Method m : SherdTable.class.getDeclaredMethods()) {
            boolean hidden = Modifier.isPrivate(m.getModifiers()) || Modifier.isPublic(m.getModifiers());
            due(m.getName() + " is public or private", hidden || m.isSynthetic(), "it isn't");
        }
    }

    private static void throwsWhatItTells() {
        for (Method m : SherdTable.class.getDeclaredMethods()) {
            boolean may = m.getName().equals("look") || m.getName().equals("edge");
            due(m.getName() + " tells its exceptions", m.getExceptionTypes().length == (may ? 2 : 0), "it doesn't");
        }
    }

    private static void checkClass(Class<?> c, Set<String> faceNames) {
        int fields = 0;
        for (Field f : c.getDeclaredFields()) {
            fields += Modifier.isStatic(f.getModifiers()) ? 0 : 1;
        }
        due(c.getSimpleName() + " has at most twenty fields", fields <= 20, fields + " fields");
        for (Method m : c.getDeclaredMethods()) {
            due(m.getName() + " takes at most seven", m.getParameterCount() <= 7, "it doesn't");
            boolean ofFace = c == SherdTable.class && Modifier.isPublic(m.getModifiers());
            due(c.getSimpleName() + "." + m.getName() + " has a name of its own",
                    ofFace || !faceNames.contains(m.getName()), "it hasn't");
        }
    }
}
