import java.io.IOException;
import java.lang.reflect.Constructor;
import java.lang.reflect.Field;
import java.lang.reflect.Method;
import java.lang.reflect.Modifier;
import java.nio.file.Files;
import java.nio.file.Path;
import java.util.Set;
import java.util.TreeSet;
import java.util.regex.Matcher;
import java.util.regex.Pattern;

/** The public face of the document, and the rules of LANGUAGE.md that can be seen from outside. */
public final class FaceTest {
    private static final Due due = new Due();

    private static final Set<String> FACE = new TreeSet<>(Set.of(
        "int load(int,int)", "int set(int,int,int)", "long number(int,int)", "int put(int,int,int)", "int at(int,int)",
        "int is(int,int)", "int take(int,int)", "int sort(int)", "long weight(int)", "int inside(int,int)",
        "int hold(int,int)", "int bay(int,int)", "int gate(int,int)", "int pass(int,int)", "long passed(int)",
        "int tariff(int,int)", "int duty(int)", "int line(int)", "int refused()", "int count(int)"));

    private static final Set<String> CONSTANTS = new TreeSet<>(Set.of("NONE", "BAD", "FULL", "CAST", "INDEX", "STORE"));

    public static void main(String[] args) throws IOException {
        theClass();
        theMethods();
        theFields();
        theClassesInside();
        theWordsThatAreRuledOut();
        due.end();
    }

    private static void holds(String what, boolean held) {
        due.is(what, held ? 1 : 0, 1);
    }

    private static void theClass() {
        int modifiers = CustomsYard.class.getModifiers();
        holds("public and final", Modifier.isPublic(modifiers) && Modifier.isFinal(modifiers));
        Constructor<?>[] made = CustomsYard.class.getDeclaredConstructors();
        holds("one public constructor without parameters",
            made.length == 1 && Modifier.isPublic(made[0].getModifiers()) && made[0].getParameterCount() == 0);
        due.is("NONE", CustomsYard.NONE, -1);
        due.is("BAD", CustomsYard.BAD, -2);
        due.is("FULL", CustomsYard.FULL, -3);
        due.is("CAST", CustomsYard.CAST, -4);
        due.is("INDEX", CustomsYard.INDEX, -5);
        due.is("STORE", CustomsYard.STORE, -6);
    }

    private static String written(Method method) {
        StringBuilder text = new StringBuilder();
        text.append(method.getReturnType().getName()).append(' ').append(method.getName()).append('(');
        for (Class<?> type : method.getParameterTypes()) {
            text.append(text.charAt(text.length() - 1) == '(' ? "" : ",").append(type.getName());
        }
        return text.append(')').toString();
    }

    private static boolean isPublicNameOfTheFace(String name) {
        return FACE.stream().anyMatch(face -> face.contains(" " + name + "("));
    }

    private static void theMethods() {
        Set<String> seen = new TreeSet<>();
        for (Method method : CustomsYard.class.getDeclaredMethods()) {
            int modifiers = method.getModifiers();
            if (Modifier.isPublic(modifiers)) {
                holds("no static public method: " + method.getName(), !Modifier.isStatic(modifiers));
                seen.add(written(method));
            } else {
                holds("private: " + method.getName(), Modifier.isPrivate(modifiers));
                holds("a name of its own: " + method.getName(), !isPublicNameOfTheFace(method.getName()));
            }
        }
        holds("the methods of the face and no other: " + seen, seen.equals(FACE));
    }

    private static void theFields() {
        Set<String> seen = new TreeSet<>();
        for (Field field : CustomsYard.class.getDeclaredFields()) {
            int modifiers = field.getModifiers();
            if (Modifier.isPublic(modifiers)) {
                seen.add(field.getName());
                holds("a constant: " + field.getName(), Modifier.isStatic(modifiers) && Modifier.isFinal(modifiers));
            } else {
                holds("private: " + field.getName(), Modifier.isPrivate(modifiers));
                holds("final where static: " + field.getName(), !Modifier.isStatic(modifiers) || Modifier.isFinal(modifiers));
            }
        }
        holds("the constants of the face and no other: " + seen, seen.equals(CONSTANTS));
    }

    private static void theClassesInside() {
        for (Class<?> inside : CustomsYard.class.getDeclaredClasses()) {
            int modifiers = inside.getModifiers();
            holds("static and not public: " + inside.getName(),
                Modifier.isStatic(modifiers) && !Modifier.isPublic(modifiers) && !Modifier.isProtected(modifiers));
        }
    }

    private static void theWordsThatAreRuledOut() throws IOException {
        String source = Files.readString(Path.of("src/main/java/CustomsYard.java"));
        String code = source.replaceAll("(?s)/\\*.*?\\*/", "").replaceAll("//[^\n]*", "");
        Matcher word = Pattern.compile("\\b(throws?|try|catch|synchronized|assert|package|Object|\\w*Exact)\\b|->|::").matcher(code);
        while (word.find()) {
            holds("not in the class: " + word.group(), false);
        }
        Matcher brought = Pattern.compile("\\bimport\\s+([^;]+);").matcher(code);
        while (brought.find()) {
            holds("import of what LANGUAGE.md lists: " + brought.group(1),
                Set.of("java.util.Arrays", "java.util.ArrayList", "java.util.List", "java.util.Iterator").contains(brought.group(1)));
        }
    }
}
