import java.lang.reflect.Constructor;
import java.lang.reflect.Method;
import java.lang.reflect.Modifier;
import java.nio.file.Files;
import java.nio.file.Path;
import java.util.ArrayList;
import java.util.List;
import java.util.Set;
import java.util.TreeSet;
import java.util.regex.Matcher;
import java.util.regex.Pattern;

/** The class has the face of the document, member for member, and nothing else that can be seen. */
public final class FaceTest {
    private static final int MOST_CLASSES = 12;
    private static final int MOST_PARAMETERS = 7;
    private static final int MOST_FIELDS = 20;

    public static void main(String[] args) throws Exception {
        Check check = new Check();
        check.due("the face", faceOfClass(), faceOfDocument(Path.of(args[0])));
        check.due("members that can be seen beside the face", othersThatCanBeSeen(), List.of());
        check.due("classes inside that break a rule", brokenInside(), List.of());
        check.due("rules of the language that are broken", brokenRules(Files.readString(Path.of(args[1]))), List.of());
        check.end("FaceTest");
    }

    private static Set<String> faceOfDocument(Path document) throws Exception {
        Set<String> face = new TreeSet<>();
        String text = Files.readString(document);
        int start = text.indexOf("```java");
        for (String row : text.substring(start, text.indexOf("```", start + 7)).split("\n")) {
            Matcher member = Pattern.compile("^ +public (.*);$").matcher(row);
            if (member.find()) {
                face.add(member.group(1).replaceAll("(int|boolean|char) \\w+([,)])", "$1$2"));
            }
        }
        return face;
    }

    private static Set<String> faceOfClass() {
        Set<String> face = new TreeSet<>();
        for (Constructor<?> constructor : CometObservatory.class.getConstructors()) {
            face.add(constructor.getDeclaringClass().getSimpleName() + types(constructor.getParameterTypes()));
        }
        for (Method method : CometObservatory.class.getDeclaredMethods()) {
            if (Modifier.isPublic(method.getModifiers())) {
                String row = method.getReturnType() + " " + method.getName() + types(method.getParameterTypes());
                List<String> thrown = names(method.getExceptionTypes());
                face.add(thrown.isEmpty() ? row : row + " throws " + String.join(", ", thrown));
            }
        }
        return face;
    }

    private static String types(Class<?>[] types) {
        return "(" + String.join(", ", names(types)) + ")";
    }

    private static List<String> names(Class<?>[] types) {
        List<String> names = new ArrayList<>();
        for (Class<?> type : types) {
            names.add(type.getSimpleName());
        }
        return names;
    }

    private static List<String> othersThatCanBeSeen() {
        List<String> others = new ArrayList<>();
        for (var field : CometObservatory.class.getDeclaredFields()) {
            if (!Modifier.isPrivate(field.getModifiers())) {
                others.add(field.getName());
            }
        }
        for (Method method : CometObservatory.class.getDeclaredMethods()) {
            if (!Modifier.isPrivate(method.getModifiers()) && !Modifier.isPublic(method.getModifiers())) {
                others.add(method.getName());
            }
        }
        return others;
    }

    /** Rules 1, 2 and 11, as far as reflection tells: no shared names, static classes, few parameters and fields. */
    private static List<String> brokenInside() {
        List<String> broken = new ArrayList<>();
        Set<String> calls = new TreeSet<>();
        for (Method method : CometObservatory.class.getMethods()) {
            calls.add(method.getName());
        }
        List<Class<?>> classes = new ArrayList<>(List.of(CometObservatory.class.getDeclaredClasses()));
        if (classes.size() >= MOST_CLASSES) {
            broken.add(classes.size() + " classes inside");
        }
        for (Class<?> inside : classes) {
            int modifiers = inside.getModifiers();
            if (!Modifier.isStatic(modifiers) || Modifier.isPublic(modifiers) || Modifier.isProtected(modifiers)) {
                broken.add(inside.getSimpleName());
            }
        }
        classes.add(CometObservatory.class);
        for (Class<?> each : classes) {
            broken.addAll(brokenMembers(each, calls));
        }
        return broken;
    }

    private static List<String> brokenMembers(Class<?> each, Set<String> calls) {
        List<String> broken = new ArrayList<>();
        for (Method method : each.getDeclaredMethods()) {
            boolean isCall = Modifier.isPublic(method.getModifiers());
            if (!isCall && calls.contains(method.getName()) || method.getParameterCount() > MOST_PARAMETERS) {
                broken.add(each.getSimpleName() + "." + method.getName());
            }
        }
        int fields = 0;
        for (var field : each.getDeclaredFields()) {
            boolean isConstant = Modifier.isStatic(field.getModifiers());
            fields += isConstant ? 0 : 1;
            if (isConstant && !Modifier.isFinal(field.getModifiers())) {
                broken.add(each.getSimpleName() + "." + field.getName());
            }
        }
        if (fields > MOST_FIELDS) {
            broken.add(each.getSimpleName() + " has " + fields + " fields");
        }
        return broken;
    }

    /** What can be told from the text alone; the other rules are for a reader. */
    private static List<String> brokenRules(String source) {
        List<String> broken = new ArrayList<>();
        String code = source.replaceAll("(?s)/\\*.*?\\*/", "").replaceAll("//[^\n]*", "");
        for (String row : code.split("\n")) {
            if (row.startsWith("import ") && !row.equals("import java.util.NoSuchElementException;")) {
                broken.add(row);
            }
        }
        for (String word : List.of("->", "::", "\\bcatch\\b", "\\bfinally\\b", "\\bassert\\b", "\\bsynchronized\\b",
                "Exact\\(", "\\bSystem\\.(?!arraycopy)", "\\bpackage\\b", "\\+ *\"", "\" *\\+")) {
            if (Pattern.compile(word).matcher(code).find()) {
                broken.add(word);
            }
        }
        return broken;
    }
}
