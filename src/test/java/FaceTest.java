import java.io.IOException;
import java.lang.reflect.Constructor;
import java.lang.reflect.Field;
import java.lang.reflect.Method;
import java.lang.reflect.Modifier;
import java.nio.file.Files;
import java.nio.file.Path;
import java.util.Arrays;
import java.util.Set;
import java.util.TreeSet;
import java.util.regex.Matcher;
import java.util.regex.Pattern;

/** The face of the class is the document's, and its source has nothing that LANGUAGE.md rules out by a plain word. */
public final class FaceTest {
    private static final Checks CHECKS = new Checks("FaceTest");
    private static final Path DOCUMENT = Path.of("../shared/DOC.md");
    private static final Path SOURCE = Path.of("src/main/java/IceBells.java");
    private static final Pattern METHOD = Pattern.compile("    public (\\w+ \\w+)\\(([^)]*)\\)(?: throws ([^;]*))?;");

    private static final String[] RULED_OUT = {
        "->", "::", "\\bcatch\\b", "\\bfinally\\b", "\\bsynchronized\\b", "\\bassert\\b", "\\bprotected\\b", "\\bpackage\\b",
        "\\bvar\\b", "\\bMath\\.\\w+Exact\\b", "\\bequals\\b", "\\bhashCode\\b", "\\btoString\\b",
        "\\b(Object|Map|HashMap|Random|System\\.out|Thread|currentTimeMillis|nanoTime)\\b", "\"\\s*\\+", "\\+\\s*\"",
        "import (?!java\\.util\\.NoSuchElementException;)",
    };

    public static void main(String[] args) throws IOException {
        CHECKS.due(1, "the methods", methodsOfTheDocument(), methodsOfTheClass());
        noOtherMember();
        ownNamesDiffer();
        nothingRuledOut();
        CHECKS.finish();
    }

    private static Set<String> methodsOfTheDocument() throws IOException {
        Set<String> found = new TreeSet<>();
        Matcher matcher = METHOD.matcher(Files.readString(DOCUMENT));
        while (matcher.find()) {
            String types = matcher.group(2).replaceAll("(\\w+) \\w+", "$1");
            String exceptions = matcher.group(3) == null ? "" : matcher.group(3);
            found.add(matcher.group(1) + "(" + types + ")" + exceptions);
        }
        return found;
    }

    private static String names(Class<?>[] types) {
        return Arrays.stream(types).map(Class::getSimpleName).reduce((a, b) -> a + ", " + b).orElse("");
    }

    private static Set<String> methodsOfTheClass() {
        Set<String> found = new TreeSet<>();
        for (Method method : IceBells.class.getDeclaredMethods()) {
            if (Modifier.isPublic(method.getModifiers())) {
                found.add(method.getReturnType().getSimpleName() + " " + method.getName() + "("
                        + names(method.getParameterTypes()) + ")" + names(method.getExceptionTypes()));
            }
        }
        return found;
    }

    private static boolean isOpen(int modifiers) {
        return !Modifier.isPrivate(modifiers);
    }

    private static void noOtherMember() {
        int modifiers = IceBells.class.getModifiers();
        CHECKS.due(1, "public and final", true, Modifier.isPublic(modifiers) && Modifier.isFinal(modifiers));
        for (Constructor<?> constructor : IceBells.class.getDeclaredConstructors()) {
            CHECKS.due(1, "the constructor", "public IceBells()", constructor.toString());
        }
        for (Method method : IceBells.class.getDeclaredMethods()) {
            boolean asItMayBe = Modifier.isPublic(method.getModifiers()) || !isOpen(method.getModifiers());
            CHECKS.due(1, method.getName() + " is public or private", true, asItMayBe);
        }
        for (Field field : IceBells.class.getDeclaredFields()) {
            CHECKS.due(1, field.getName() + " is private", false, isOpen(field.getModifiers()));
            boolean constant = !Modifier.isStatic(field.getModifiers()) || Modifier.isFinal(field.getModifiers());
            CHECKS.due(1, field.getName() + " is final if static", true, constant);
        }
    }

    private static void ownNamesDiffer() {
        Set<String> publicNames = new TreeSet<>();
        for (Method method : IceBells.class.getDeclaredMethods()) {
            if (Modifier.isPublic(method.getModifiers())) {
                publicNames.add(method.getName());
            }
        }
        for (Method method : IceBells.class.getDeclaredMethods()) {
            if (!Modifier.isPublic(method.getModifiers())) {
                CHECKS.due(1, method.getName() + " is a public name", false, publicNames.contains(method.getName()));
            }
        }
        for (Class<?> inside : IceBells.class.getDeclaredClasses()) {
            for (Method method : inside.getDeclaredMethods()) {
                CHECKS.due(1, method.getName() + " is a public name", false, publicNames.contains(method.getName()));
            }
        }
    }

    private static void nothingRuledOut() throws IOException {
        String source = Files.readString(SOURCE);
        for (String words : RULED_OUT) {
            Matcher matcher = Pattern.compile(words).matcher(source);
            CHECKS.due(1, "the source has " + words, null, matcher.find() ? matcher.group() : null);
        }
        CHECKS.due(1, "signs beyond 126", true, source.chars().allMatch(c -> c == '\n' || c >= 32 && c <= 126));
    }
}
