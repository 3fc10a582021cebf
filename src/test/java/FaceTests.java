import java.io.IOException;
import java.lang.reflect.Constructor;
import java.lang.reflect.Field;
import java.lang.reflect.Method;
import java.lang.reflect.Modifier;
import java.nio.file.Files;
import java.nio.file.Path;
import java.util.Arrays;
import java.util.Set;
import java.util.TreeSet;

/** The class has the document's face and no more (LANGUAGE.md, rule 1). */
public final class FaceTests {
    private static int wrong = 0;

    private static void check(String what, boolean holds) {
        if (!holds) {
            wrong++;
            System.out.println(what);
        }
    }

    public static void main(String[] args) throws IOException {
        Set<String> due = faceOfTheDocument();
        check("the document's face was not found", due.size() == 35 - 1);
        Set<String> methods = new TreeSet<>();
        Set<String> hidden = new TreeSet<>();
        Set<String> open = new TreeSet<>();
        for (Method m : GladRoad.class.getDeclaredMethods()) {
            if (Modifier.isPrivate(m.getModifiers()) || m.isSynthetic()) {
                hidden.add(m.getName());
                continue;
            }
            check(m + " is neither public nor private", Modifier.isPublic(m.getModifiers()));
            methods.add(signature(m));
            open.add(m.getName());
        }
        check("methods are " + methods + ", due are " + due, methods.equals(due));
        for (Class<?> c : GladRoad.class.getDeclaredClasses()) {
            check(c + " is public", !Modifier.isPublic(c.getModifiers()));
            check(c + " is not static", Modifier.isStatic(c.getModifiers()));
            for (Method m : c.getDeclaredMethods()) {
                hidden.add(m.getName());
            }
        }
        hidden.retainAll(open);
        check("names of public methods used again: " + hidden, hidden.isEmpty());
        checkFields();
        for (Constructor<?> c : GladRoad.class.getDeclaredConstructors()) {
            check(c + " is not the constructor of the face",
                Modifier.isPublic(c.getModifiers()) && c.getParameterCount() == 0);
        }
        check("the class is not public and final", Modifier.isPublic(GladRoad.class.getModifiers())
            && Modifier.isFinal(GladRoad.class.getModifiers()));
        System.out.println(wrong == 0 ? "the face is as due" : wrong + " faults of the face");
        System.exit(wrong == 0 ? 0 : 1);
    }

    private static void checkFields() {
        Set<String> constants = new TreeSet<>();
        for (Field f : GladRoad.class.getDeclaredFields()) {
            int how = f.getModifiers();
            if (Modifier.isPublic(how)) {
                constants.add(f.getName());
            }
            check(f + " is neither public nor private", Modifier.isPublic(how) || Modifier.isPrivate(how));
            check(f + " is static and not final", !Modifier.isStatic(how) || Modifier.isFinal(how));
        }
        check("constants are " + constants, constants.equals(new TreeSet<>(Arrays.asList(
            "BAD", "NOT", "FULL", "NONE", "NULL", "CAST", "INDEX", "SIZE"))));
    }

    private static String signature(Method m) {
        StringBuilder s = new StringBuilder(m.getReturnType().getName()).append(' ').append(m.getName());
        for (Class<?> c : m.getParameterTypes()) {
            s.append(' ').append(c.getName());
        }
        return s.toString();
    }

    private static Set<String> faceOfTheDocument() throws IOException {
        Set<String> due = new TreeSet<>();
        for (String line : Files.readAllLines(Path.of("../shared/DOC.md"))) {
            if (line.startsWith("    public int ")) {
                String inside = line.substring(line.indexOf('(') + 1, line.indexOf(')'));
                StringBuilder s = new StringBuilder("int ").append(line, 15, line.indexOf('('));
                for (String parameter : inside.isEmpty() ? new String[0] : inside.split(", ")) {
                    s.append(' ').append(parameter, 0, parameter.indexOf(' '));
                }
                due.add(s.toString());
            }
        }
        return due;
    }
}
