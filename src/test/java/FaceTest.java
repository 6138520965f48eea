import java.lang.reflect.Constructor;
import java.lang.reflect.Field;
import java.lang.reflect.Method;
import java.lang.reflect.Modifier;
import java.util.Arrays;
import java.util.TreeSet;

/** The class has the document's face, and no member more that others can see. */
public final class FaceTest {
    private static final String[] FACE = {
        "void seed()", "int fork(int)", "int event(int)", "int join(int,int)", "int peek(int)", "int send(int)",
        "int take(int,int)", "boolean lose(int)", "int home(int,int)", "boolean undo()", "int relation(int,int)",
        "int unseen(int,int)", "boolean meets(int,int)", "int height(int,long,int)", "boolean owns(int,long,int)",
        "int stamp(int,int)", "boolean witness(int,int,int)", "long place()", "int digits()",
        "int check(int,int,long,int,long,int)", "int pack(int)", "int bit(int)", "int add(long,int)",
        "boolean end(int)", "int read()", "int fault()", "boolean image()", "boolean back()", "int count(int)",
    };

    public static void main(String[] args) {
        Checks checks = new Checks("face");
        Class<?> c = SplitClocks.class;
        checks.yes("public and final", Modifier.isPublic(c.getModifiers()) && Modifier.isFinal(c.getModifiers()));
        checks.due("NONE", SplitClocks.NONE, -1);
        TreeSet<String> want = new TreeSet<>(Arrays.asList(FACE));
        TreeSet<String> got = new TreeSet<>();
        for (Method m : c.getDeclaredMethods()) {
            if (m.isSynthetic()) {
                continue;
            }
            String text = m.getReturnType() + " " + m.getName() + "("
                + String.join(",", Arrays.stream(m.getParameterTypes()).map(Class::getName).toList()) + ")";
            if (Modifier.isPublic(m.getModifiers())) {
                got.add(text);
            } else {
                checks.yes(text + " is private", Modifier.isPrivate(m.getModifiers()));
            }
        }
        checks.yes("methods " + want + " are " + got, want.equals(got));
        for (Field f : c.getDeclaredFields()) {
            boolean isNone = f.getName().equals("NONE") && Modifier.isPublic(f.getModifiers());
            checks.yes("field " + f.getName(), isNone || Modifier.isPrivate(f.getModifiers()));
        }
        Constructor<?>[] made = c.getDeclaredConstructors();
        checks.due("constructors", made.length, 1);
        checks.yes("its constructor", Modifier.isPublic(made[0].getModifiers()) && made[0].getParameterCount() == 0);
        for (Class<?> inside : c.getDeclaredClasses()) {
            int m = inside.getModifiers();
            checks.yes(inside.getName(), Modifier.isStatic(m) && !Modifier.isPublic(m) && !Modifier.isProtected(m));
        }
        checks.close();
    }
}
