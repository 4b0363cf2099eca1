import java.io.IOException;
import java.lang.reflect.Constructor;
import java.lang.reflect.Field;
import java.lang.reflect.Member;
import java.lang.reflect.Method;
import java.lang.reflect.Modifier;
import java.nio.file.Files;
import java.nio.file.Path;
import java.util.List;
import java.util.Set;
import java.util.TreeSet;

/** The public face is the document's and no more, and the rules of LANGUAGE.md that are easy to see are kept. */
public final class FaceTest {
    private static final Set<String> FACE = Set.of("PagesForAll()", "int NONE", "int UNKNOWN", "int OUTSIDE",
        "int STATE", "int FULL", "int part(int, int)", "int set(int, int, int)", "int told(int, int)",
        "int box(int, int, int, int, int)", "int colours(int, int, int)", "int contrast(int)", "int name(int)",
        "int word(int, int)", "int said(int)", "int pairs()", "int stop(int)", "int press(int)", "int focus()",
        "int caught()", "int leave()", "int walk(int)", "int key(int)", "int keeper()", "int hear()", "int wrongs()",
        "int wrong(int, int)", "int mend(int)", "int count(int)", "long digest()");
    private static final String[] RULED_OUT = {"throw", "throws", "try", "catch", "synchronized", "assert", "import",
        "package", "double", "float", "System", "Object"};
    private static final int MOST_CLASSES = 12, MOST_FIELDS = 20, MOST_PARAMETERS = 7;

    private static int failures = 0;

    private static void fail(String what) {
        failures++;
        System.out.println(what);
    }

    private static String parameters(Class<?>[] types) {
        StringBuilder text = new StringBuilder();
        for (Class<?> type : types) {
            text.append(text.length() == 0 ? "" : ", ").append(type.getSimpleName());
        }
        return "(" + text + ")";
    }

    private static void take(Set<String> into, Member member, String text) {
        if (!Modifier.isPrivate(member.getModifiers())) {
            into.add(text);
            if (!Modifier.isPublic(member.getModifiers())) {
                fail(text + " is not public");
            }
        }
    }

    private static void checkFace() {
        Set<String> seen = new TreeSet<>();
        for (Constructor<?> made : PagesForAll.class.getDeclaredConstructors()) {
            take(seen, made, "PagesForAll" + parameters(made.getParameterTypes()));
        }
        for (Field field : PagesForAll.class.getDeclaredFields()) {
            take(seen, field, field.getType().getSimpleName() + " " + field.getName());
        }
        for (Method method : PagesForAll.class.getDeclaredMethods()) {
            take(seen, method, method.getReturnType().getSimpleName() + " " + method.getName()
                + parameters(method.getParameterTypes()));
        }
        if (!seen.equals(FACE)) {
            fail("the face is " + seen + ", due is " + new TreeSet<>(FACE));
        }
        if (!Modifier.isFinal(PagesForAll.class.getModifiers()) || !Modifier.isPublic(PagesForAll.class.getModifiers())) {
            fail("the class is not public and final");
        }
    }

    private static void checkClass(Class<?> checked) {
        int fields = 0;
        for (Field field : checked.getDeclaredFields()) {
            boolean isStatic = Modifier.isStatic(field.getModifiers());
            fields += isStatic ? 0 : 1;
            if (isStatic && !Modifier.isFinal(field.getModifiers())) {
                fail(field + " is static and not final");
            }
        }
        if (fields > MOST_FIELDS) {
            fail(checked + " has " + fields + " fields");
        }
        for (Method method : checked.getDeclaredMethods()) {
            if (method.getParameterCount() > MOST_PARAMETERS) {
                fail(method + " has too many parameters");
            }
            if (!Modifier.isPublic(method.getModifiers()) && isNameOfFace(method.getName())) {
                fail(method + " bears the name of a public one");
            }
        }
    }

    private static boolean isNameOfFace(String name) {
        for (String member : FACE) {
            if (member.contains(" " + name + "(")) {
                return true;
            }
        }
        return false;
    }

    private static void checkText() throws IOException {
        String text = Files.readString(Path.of("src/main/java/PagesForAll.java"));
        String code = text.replaceAll("(?s)/\\*.*?\\*/", " ").replaceAll("//[^\n]*", " ");
        Set<String> words = new TreeSet<>(List.of(code.split("[^A-Za-z0-9_]+")));
        for (String word : RULED_OUT) {
            if (words.contains(word)) {
                fail("the program says " + word);
            }
        }
        if (code.contains("->") || code.contains("::")) {
            fail("the program has a lambda, an arrow or a method reference");
        }
    }

    public static void main(String[] args) throws IOException {
        checkFace();
        checkClass(PagesForAll.class);
        Class<?>[] inside = PagesForAll.class.getDeclaredClasses();
        if (inside.length + 1 > MOST_CLASSES) {
            fail("there are " + (inside.length + 1) + " classes");
        }
        for (Class<?> nested : inside) {
            checkClass(nested);
            if (!Modifier.isStatic(nested.getModifiers())) {
                fail(nested + " is not static");
            }
        }
        checkText();
        if (failures > 0) {
            System.exit(1);
        }
    }
}
