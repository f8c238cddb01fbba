import java.io.IOException;
import java.lang.reflect.InvocationTargetException;
import java.lang.reflect.Method;
import java.lang.reflect.Modifier;
import java.nio.file.Files;
import java.nio.file.Path;
import java.util.ArrayList;
import java.util.HashSet;
import java.util.List;
import java.util.Set;
import java.util.regex.Matcher;
import java.util.regex.Pattern;
import java.util.stream.Collectors;
import java.util.stream.Stream;

/** README.md tells the truth: the calls that it shows answer what it says. Runs in the project's folder. */
public final class ReadmeTest {
    private static final String MAKING = "TreadleLoom loom = new TreadleLoom();";
    private static final Pattern CALL = Pattern.compile(
            "loom\\.(\\w+)\\(([^)]*)\\); +// (throws \\w+|true|false|-?\\d+(?:\\.\\d+)?)\\b(?!\\.).*");
    private static final int MOST_CALLS = 512;

    private static final Set<String> SHOWN = new HashSet<>();
    private static TreadleLoom loom;
    private static int calls;

    private ReadmeTest() {
    }

    public static void main(String[] args) throws IOException {
        List<String> lines = Files.readAllLines(Path.of("README.md"));
        List<String> picture = new ArrayList<>();
        boolean isJava = false;
        for (String line : lines) {
            if (line.startsWith("```")) {
                isJava = line.equals("```java");
            } else if (isJava) {
                play(line);
            } else if (line.matches("[#.]+")) {
                picture.add(line);
            }
        }
        pictureIsOfTheCloth(String.join("/", picture));
        Checks.note(calls <= MOST_CALLS, "README.md asks one loom for more than 512 calls");
        eachMethodIsShown();
        testsAreNamed(String.join("\n", lines));
        Checks.close();
    }

    private static void play(String line) {
        Matcher call = CALL.matcher(line);
        if (line.equals(MAKING)) {
            Checks.note(loom == null, "README.md is not one run of one loom");
            loom = new TreadleLoom();
        } else if (loom != null && call.matches()) {
            calls++;
            SHOWN.add(call.group(1));
            Checks.is("README.md: " + line, answer(call.group(1), call.group(2)), call.group(3));
        } else {
            Checks.note(false, "README.md: no call with its answer: " + line);
        }
    }

    private static String answer(String name, String told) {
        String[] words = told.isEmpty() ? new String[0] : told.split(", ");
        for (Method method : TreadleLoom.class.getDeclaredMethods()) {
            if (isOfFace(method) && method.getName().equals(name) && method.getParameterCount() == words.length) {
                return answer(method, words);
            }
        }
        return "no such method";
    }

    private static String answer(Method method, String[] words) {
        Object[] values = new Object[words.length];
        for (int i = 0; i < words.length; i++) {
            boolean isInt = method.getParameterTypes()[i] == int.class;
            values[i] = isInt ? (Object) Integer.valueOf(words[i]) : Boolean.valueOf(words[i]);
        }
        try {
            return String.valueOf(method.invoke(loom, values));
        } catch (InvocationTargetException e) {
            return "throws " + e.getCause().getClass().getSimpleName();
        } catch (IllegalAccessException e) {
            return "can't be called";
        }
    }

    /** The calls behind the picture leave the cloth as it is. */
    private static void pictureIsOfTheCloth(String picture) {
        String due = Edges.pictureOf(loom);
        calls += 2 + due.replace("/", "").length();
        Checks.is("the picture in README.md", picture, due);
    }

    private static boolean isOfFace(Method method) {
        return Modifier.isPublic(method.getModifiers());
    }

    private static void eachMethodIsShown() {
        for (Method method : TreadleLoom.class.getDeclaredMethods()) {
            Checks.note(!isOfFace(method) || SHOWN.contains(method.getName()), "README.md does not show " + method);
        }
    }

    /** Each test of the project is named, and each test that is named is there. */
    private static void testsAreNamed(String readme) throws IOException {
        Set<String> there;
        try (Stream<Path> files = Files.list(Path.of("src/test/java"))) {
            there = files.map(file -> file.getFileName().toString()).filter(name -> name.endsWith("Test.java"))
                    .map(name -> name.replace(".java", "")).collect(Collectors.toSet());
        }
        Set<String> named = new HashSet<>();
        Matcher name = Pattern.compile("\\b\\w+Test\\b").matcher(readme);
        while (name.find()) {
            named.add(name.group());
        }
        Checks.is("tests named by README.md", named.stream().sorted().collect(Collectors.joining(" ")),
                there.stream().sorted().collect(Collectors.joining(" ")));
    }
}
