import java.lang.reflect.Constructor;
import java.lang.reflect.Field;
import java.lang.reflect.Method;
import java.lang.reflect.Modifier;
import java.util.Arrays;
import java.util.Set;
import java.util.TreeSet;

/** The class shows the document's face and nothing more. */
public final class FaceTest {
    private static final String[] FACE = {
        "int feed(int,int,int,int,int)", "boolean end(int)", "int fault(int)", "int text(int)",
        "int yard(int,int) NoSuchElementException", "int sort(int,int)", "boolean rule(int)", "boolean obey(int)",
        "int fits(int,int)", "int where(int,int)", "int park(int,int)", "boolean stop(int,int)", "int leave(int)",
        "int run(int,long)", "int undo()", "long mean(int,boolean)", "long likely(int,int)", "int ends(int,int)",
        "int bays(int,int)", "int hearse(int,int)", "long gate(int,int)", "long came()", "int last()",
        "int seek(int,int,int,int,int)", "int take(int,int,int,int,int)", "int gaps(int)", "int image()",
        "int back()", "int count(int)"};

    public static void main(String[] args) {
        Class<?> c = KerbSide.class;
        Check.due("public final", c.getModifiers() & (Modifier.PUBLIC | Modifier.FINAL),
            Modifier.PUBLIC | Modifier.FINAL);
        Set<String> shown = new TreeSet<>();
        Set<String> names = new TreeSet<>();
        for (Method m : c.getDeclaredMethods()) {
            if (Modifier.isPrivate(m.getModifiers())) {
                continue;
            }
            Check.due("public, not static: " + m, m.getModifiers(), Modifier.PUBLIC);
            shown.add(written(m));
            names.add(m.getName());
        }
        Check.due("the methods " + shown, shown.equals(new TreeSet<>(Arrays.asList(FACE))), true);
        for (Class<?> inner : c.getDeclaredClasses()) {
            Check.due("static " + inner, Modifier.isStatic(inner.getModifiers()), true);
            checkPrivateNames(inner, names);
        }
        checkPrivateNames(c, names);
        int fields = 0;
        for (Field f : c.getDeclaredFields()) {
            if (!Modifier.isPrivate(f.getModifiers())) {
                fields++;
                Check.due("a constant: " + f, f.getModifiers(), Modifier.PUBLIC | Modifier.STATIC | Modifier.FINAL);
            }
        }
        Check.due("constants", fields, 2);
        Check.due("NONE", KerbSide.NONE, -1);
        Check.due("HIDDEN", KerbSide.HIDDEN, -1000000);
        Constructor<?>[] made = c.getDeclaredConstructors();
        Check.due("constructors", made.length, 1);
        Check.due("public KerbSide()", made[0].getModifiers() == Modifier.PUBLIC && made[0].getParameterCount() == 0,
            true);
        Check.finish();
    }

    private static void checkPrivateNames(Class<?> c, Set<String> names) {
        for (Method m : c.getDeclaredMethods()) {
            boolean open = c == KerbSide.class && Modifier.isPublic(m.getModifiers());
            Check.due("no name of the face: " + m, !open && names.contains(m.getName()), false);
        }
    }

    private static String written(Method m) {
        StringBuilder text = new StringBuilder(m.getReturnType() + " " + m.getName() + "(");
        for (int i = 0; i < m.getParameterCount(); i++) {
            text.append(i == 0 ? "" : ",").append(m.getParameterTypes()[i]);
        }
        text.append(")");
        for (Class<?> e : m.getExceptionTypes()) {
            text.append(" ").append(e.getSimpleName());
        }
        return text.toString();
    }
}
