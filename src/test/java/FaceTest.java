import java.io.IOException;
import java.lang.reflect.Constructor;
import java.lang.reflect.Field;
import java.lang.reflect.Method;
import java.lang.reflect.Modifier;
import java.nio.file.Files;
import java.nio.file.Path;
import java.util.Arrays;
import java.util.TreeSet;

/** The class has the face that stands in the document's code block, and no member more that others can see. */
public final class FaceTest {
    private static final Path DOCUMENT = Path.of("..", "shared", "DOC.md");
    private static final Checks CHECKS = new Checks("face");
    private static final Class<?> MADE = SplitClocks.class;

    public static void main(String[] args) throws IOException {
        CHECKS.yes("public and final", Modifier.isPublic(MADE.getModifiers()) && Modifier.isFinal(MADE.getModifiers()));
        CHECKS.due("NONE", SplitClocks.NONE, -1);
        TreeSet<String> want = face(Files.readString(DOCUMENT));
        TreeSet<String> got = new TreeSet<>();
        methods(got);
        fields(got);
        constructors(got);
        CHECKS.due("members in the document", want.size(), 31);
        CHECKS.yes("members " + want + " are " + got, want.equals(got));
        classesInside();
        CHECKS.close();
    }

    /** The members in the code block, without the names of parameters and the values of constants. */
    private static TreeSet<String> face(String document) {
        TreeSet<String> found = new TreeSet<>();
        for (String line : document.split("\n")) {
            String text = line.trim();
            if (text.startsWith("public ") && text.endsWith(";")) {
                String bare = text.substring("public ".length(), text.length() - 1).replaceAll(" = .*", "");
                found.add(bare.replaceAll("(int|long) \\w+([,)])", "$1$2").replace(", ", ","));
            }
        }
        return found;
    }

    private static String types(Class<?>[] all) {
        return String.join(",", Arrays.stream(all).map(Class::getSimpleName).toList());
    }

    private static void methods(TreeSet<String> got) {
        for (Method m : MADE.getDeclaredMethods()) {
            String thrown = m.getExceptionTypes().length == 0 ? "" : " throws " + types(m.getExceptionTypes());
            String text = m.getReturnType() + " " + m.getName() + "(" + types(m.getParameterTypes()) + ")" + thrown;
            if (Modifier.isPublic(m.getModifiers())) {
                got.add(text);
                CHECKS.no(text + " is static", Modifier.isStatic(m.getModifiers()));
            } else if (!m.isSynthetic()) {
                CHECKS.yes(text + " is private", Modifier.isPrivate(m.getModifiers()));
            }
        }
    }

    private static void fields(TreeSet<String> got) {
        for (Field f : MADE.getDeclaredFields()) {
            if (Modifier.isPublic(f.getModifiers())) {
                boolean constant = Modifier.isStatic(f.getModifiers()) && Modifier.isFinal(f.getModifiers());
                got.add((constant ? "static final " : "") + f.getType() + " " + f.getName());
            } else {
                CHECKS.yes("field " + f.getName() + " is private", Modifier.isPrivate(f.getModifiers()));
            }
        }
    }

    private static void constructors(TreeSet<String> got) {
        Constructor<?>[] all = MADE.getDeclaredConstructors();
        CHECKS.due("constructors", all.length, 1);
        CHECKS.yes("its constructor is public", Modifier.isPublic(all[0].getModifiers()));
        got.add(MADE.getSimpleName() + "(" + types(all[0].getParameterTypes()) + ")");
    }

    private static void classesInside() {
        for (Class<?> inside : MADE.getDeclaredClasses()) {
            int m = inside.getModifiers();
            CHECKS.yes(inside.getName(), Modifier.isStatic(m) && !Modifier.isPublic(m) && !Modifier.isProtected(m));
        }
    }
}
