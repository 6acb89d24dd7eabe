import java.io.IOException;
import java.lang.reflect.Constructor;
import java.lang.reflect.Executable;
import java.lang.reflect.Field;
import java.lang.reflect.Method;
import java.lang.reflect.Modifier;
import java.nio.file.Files;
import java.nio.file.Path;
import java.util.Set;
import java.util.TreeSet;

/** The face of the class is the document's, and its source keeps out of what LANGUAGE.md forbids most plainly. */
public final class FaceTest {
    private static final Checks C = new Checks();

    private FaceTest() {
    }

    public static void main(String[] args) throws IOException {
        face();
        insides();
        source();
        C.finish();
    }

    private static void face() throws IOException {
        Set<String> due = new TreeSet<>();
        for (String line : Files.readAllLines(Path.of("../shared/DOC.md"))) {
            if (line.startsWith("    public ")) {
                due.add(withoutNames(line.trim()));
            }
        }
        Set<String> got = new TreeSet<>();
        for (Constructor<?> c : LendingDesk.class.getDeclaredConstructors()) {
            got.add("public LendingDesk()" + thrown(c) + ";");
            C.same("the constructor's parameters", c.getParameterCount(), 0);
        }
        for (Method m : LendingDesk.class.getDeclaredMethods()) {
            if (!Modifier.isPrivate(m.getModifiers()) && !m.isSynthetic()) {
                got.add("public " + m.getReturnType().getSimpleName() + " " + m.getName() + "(" + types(m) + ")"
                        + thrown(m) + ";");
                C.yes(m.getName() + " is public", Modifier.isPublic(m.getModifiers()));
            }
        }
        C.same("the number of promises", due.size(), 65);
        C.same("the face", got.toString(), due.toString());
    }

    private static String withoutNames(String declaration) {
        return declaration.replaceAll("(int|char) \\w+([,)])", "$1$2");
    }

    private static String types(Executable e) {
        StringBuilder t = new StringBuilder();
        for (Class<?> type : e.getParameterTypes()) {
            t.append(t.length() == 0 ? "" : ", ").append(type.getSimpleName());
        }
        return t.toString();
    }

    private static String thrown(Executable e) {
        StringBuilder t = new StringBuilder();
        for (Class<?> type : e.getExceptionTypes()) {
            t.append(t.length() == 0 ? " throws " : ", ").append(type.getSimpleName());
        }
        return t.toString();
    }

    private static void insides() {
        Set<String> names = new TreeSet<>();
        for (Method m : LendingDesk.class.getMethods()) {
            names.add(m.getName());
        }
        for (Field f : LendingDesk.class.getDeclaredFields()) {
            C.yes("the field " + f.getName() + " is private", Modifier.isPrivate(f.getModifiers()));
        }
        for (Class<?> inside : LendingDesk.class.getDeclaredClasses()) {
            for (Method m : inside.getDeclaredMethods()) {
                C.no(m + " bears the name of a public one", names.contains(m.getName()));
            }
        }
        for (Method m : LendingDesk.class.getDeclaredMethods()) {
            C.no(m + " bears the name of a public one",
                    Modifier.isPrivate(m.getModifiers()) && names.contains(m.getName()));
        }
    }

    private static void source() throws IOException {
        String text = Files.readString(Path.of("src/main/java/LendingDesk.java"));
        for (String word : new String[] {"->", "::", "catch", "finally", "synchronized", "assert ", "Exact(",
            "static {", "Object ", "System.out", "package "}) {
            C.no("the source holds " + word, text.contains(word));
        }
        C.yes("the source is plain ASCII", text.chars().allMatch(c -> c < 128));
    }
}
