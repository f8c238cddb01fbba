import java.io.IOException;
import java.lang.reflect.Constructor;
import java.lang.reflect.Field;
import java.lang.reflect.Method;
import java.lang.reflect.Modifier;
import java.nio.file.Files;
import java.nio.file.Path;
import java.util.ArrayList;
import java.util.Arrays;
import java.util.List;
import java.util.Set;
import java.util.TreeSet;

/** What of ../shared/LANGUAGE.md can be told from the text and the face of the class. Runs in the project's folder. */
public final class LanguageTest {
    private static final String[] FORBIDDEN = {"\\bimport\\b", "\\bpackage\\b", "\\bcatch\\b", "\\bfinally\\b",
        "\\bassert\\b", "\\bsynchronized\\b", "->", "::", "\\bstatic \\{", "\\bSystem\\.(?!arraycopy)", "\\bThread\\b",
        "Exact\\(", "\\bvar\\b", "\\bsuper\\b", "\"\\s*\\+|\\+\\s*\"",
        "\\bthrow (?!new (IllegalArgument|IllegalState|IndexOutOfBounds)Exception\\(\")"};

    public static void main(String[] args) throws IOException {
        String source = Files.readString(Path.of("src/main/java/TreadleLoom.java"));
        String code = source.replaceAll("(?s)/\\*.*?\\*/", " ").replaceAll("//[^\n]*", " ");
        faceStands(code);
        nothingElseIsOpen();
        noPrivateMethodHasAPublicName();
        nothingForbidden(code);
        sizesAreKept(code);
        Checks.close();
    }

    private static void faceStands(String code) throws IOException {
        String folded = code.replaceAll("\\s+", " ");
        boolean isFace = false;
        int methods = 0;
        for (String line : Files.readAllLines(Path.of("../shared/DOC.md"))) {
            if (line.startsWith("```")) {
                isFace = line.equals("```java");
            } else if (isFace && line.startsWith("    ")) {
                methods++;
                String due = line.trim().replaceAll(";$", " {");
                Checks.note(folded.contains(due), "the face wants: " + due);
            }
        }
        Checks.is("members of the face", methods, TreadleLoom.class.getDeclaredConstructors().length
                + publicNames().size());
    }

    private static Set<String> publicNames() {
        Set<String> names = new TreeSet<>();
        for (Method method : TreadleLoom.class.getDeclaredMethods()) {
            if (Modifier.isPublic(method.getModifiers())) {
                names.add(method.getName());
            }
        }
        return names;
    }

    private static List<Class<?>> allClasses() {
        List<Class<?>> all = new ArrayList<>(Arrays.asList(TreadleLoom.class.getDeclaredClasses()));
        all.add(TreadleLoom.class);
        return all;
    }

    private static void nothingElseIsOpen() {
        Checks.note(Modifier.isFinal(TreadleLoom.class.getModifiers()), "the class is not final");
        for (Constructor<?> constructor : TreadleLoom.class.getDeclaredConstructors()) {
            Checks.is("parameters of the constructor", constructor.getParameterCount(), 0);
        }
        for (Method method : TreadleLoom.class.getDeclaredMethods()) {
            int modifiers = method.getModifiers();
            Checks.note(Modifier.isPublic(modifiers) || Modifier.isPrivate(modifiers), "open: " + method);
        }
        for (Field field : TreadleLoom.class.getDeclaredFields()) {
            Checks.note(Modifier.isPrivate(field.getModifiers()), "open: " + field);
        }
        for (Class<?> inside : TreadleLoom.class.getDeclaredClasses()) {
            int modifiers = inside.getModifiers();
            Checks.note(Modifier.isStatic(modifiers) && !Modifier.isPublic(modifiers)
                    && !Modifier.isProtected(modifiers), "open: " + inside);
        }
    }

    private static void noPrivateMethodHasAPublicName() {
        Set<String> names = publicNames();
        for (Class<?> one : allClasses()) {
            for (Method method : one.getDeclaredMethods()) {
                boolean isFace = one == TreadleLoom.class && Modifier.isPublic(method.getModifiers());
                Checks.note(isFace || !names.contains(method.getName()), "a name of the face: " + method);
            }
        }
    }

    private static void nothingForbidden(String code) {
        for (String forbidden : FORBIDDEN) {
            int many = code.split(forbidden, -1).length - 1;
            Checks.is("times of " + forbidden, many, 0);
        }
        Checks.note(code.chars().allMatch(sign -> sign <= 127), "a sign above 127");
    }

    private static void sizesAreKept(String code) {
        Checks.note(allClasses().size() <= 12, "more than 12 classes");
        for (Class<?> one : allClasses()) {
            int fields = 0;
            for (Field field : one.getDeclaredFields()) {
                boolean isStatic = Modifier.isStatic(field.getModifiers());
                fields += isStatic ? 0 : 1;
                Checks.note(!isStatic || Modifier.isFinal(field.getModifiers()), "static state: " + field);
            }
            Checks.note(fields <= 20, "more than 20 fields in " + one);
            for (Method method : one.getDeclaredMethods()) {
                Checks.note(method.getParameterCount() <= 7, "more than 7 parameters: " + method);
            }
        }
        Checks.note(longestMethod(code) <= 60, "a method of more than 60 lines");
    }

    /** By the layout: a method ends with the brace that stands under its first line. */
    private static int longestMethod(String code) {
        int longest = 0;
        int start = -1;
        String end = "";
        String[] lines = code.split("\n");
        for (int i = 0; i < lines.length; i++) {
            if (start < 0 && lines[i].matches("( {4}| {8})\\S.*\\) ?(throws .*)?\\{")) {
                start = i;
                end = lines[i].replaceAll("\\S.*", "}");
            } else if (start >= 0 && lines[i].equals(end)) {
                longest = Math.max(longest, i - start + 1);
                start = -1;
            }
        }
        return longest;
    }
}
