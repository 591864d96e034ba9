import java.lang.reflect.Constructor;
import java.lang.reflect.Field;
import java.lang.reflect.Method;
import java.lang.reflect.Modifier;
import java.util.ArrayList;
import java.util.Arrays;
import java.util.List;
import java.util.Set;
import java.util.TreeSet;

/** The public face of the document, and rules 1, 5 and 11 of LANGUAGE.md as far as the class files tell. */
public final class FaceTest {
    private static final String[] FACE = {
        "int trader() IllegalStateException",
        "int right(int,int,int,int,int) IllegalArgumentException IllegalStateException",
        "boolean forbid(int,int,boolean)",
        "int group(int,int) IllegalArgumentException",
        "int deputy(int,int) IllegalArgumentException",
        "int mandate(int,int,boolean,int) IllegalArgumentException IllegalStateException",
        "int suspend(int,int,boolean) IllegalArgumentException IllegalStateException",
        "boolean end(int,int)",
        "int may(int,int,int,int)",
        "boolean two(int,boolean)",
        "int done(int,int,int,int,int)",
        "int letter(int,int) IllegalArgumentException IndexOutOfBoundsException",
        "int check(int)",
        "int certified()",
        "int look(int,int,int) IndexOutOfBoundsException IllegalArgumentException",
        "int count(int)"
    };
    private static final Due due = new Due();

    public static void main(String[] args) {
        Class<?> face = TraderRights.class;
        due.is("the class is public and final", face.getModifiers(), Modifier.PUBLIC | Modifier.FINAL);
        methods(face);
        constructors(face);
        fields(face);
        due.yes("at most twelve classes", face.getDeclaredClasses().length < 12);
        for (Class<?> inside : face.getDeclaredClasses()) {
            due.yes(inside + " is static", Modifier.isStatic(inside.getModifiers()));
            due.no(inside + " is not public", Modifier.isPublic(inside.getModifiers()));
            sizes(inside);
        }
        sizes(face);
        due.end();
    }

    private static void methods(Class<?> face) {
        Set<String> shown = new TreeSet<>();
        Set<String> shownNames = new TreeSet<>();
        Set<String> hiddenNames = new TreeSet<>();
        for (Method m : face.getDeclaredMethods()) {
            if (Modifier.isPrivate(m.getModifiers())) {
                hiddenNames.add(m.getName());
            } else {
                shown.add(told(m));
                shownNames.add(m.getName());
                due.is(m.getName() + " is just public", m.getModifiers(), Modifier.PUBLIC);
            }
        }
        due.yes("the methods " + shown, shown.equals(new TreeSet<>(Arrays.asList(FACE))));
        hiddenNames.retainAll(shownNames);
        due.yes("private methods with public names " + hiddenNames, hiddenNames.isEmpty());
    }

    private static String told(Method m) {
        List<String> types = new ArrayList<>();
        for (Class<?> c : m.getParameterTypes()) {
            types.add(c.getSimpleName());
        }
        StringBuilder text = new StringBuilder();
        text.append(m.getReturnType()).append(' ').append(m.getName());
        text.append('(').append(String.join(",", types)).append(')');
        for (Class<?> c : m.getExceptionTypes()) {
            text.append(' ').append(c.getSimpleName());
        }
        return text.toString();
    }

    private static void constructors(Class<?> face) {
        due.is("constructors", face.getDeclaredConstructors().length, 1);
        for (Constructor<?> c : face.getDeclaredConstructors()) {
            due.is("the constructor is public", c.getModifiers(), Modifier.PUBLIC);
            due.is("its parameters", c.getParameterCount(), 0);
        }
    }

    private static void fields(Class<?> face) {
        for (Field f : face.getDeclaredFields()) {
            boolean shown = !Modifier.isPrivate(f.getModifiers());
            due.yes(f.getName() + " is private, but for NONE", shown == f.getName().equals("NONE"));
        }
    }

    private static void sizes(Class<?> c) {
        int own = 0;
        for (Field f : c.getDeclaredFields()) {
            if (Modifier.isStatic(f.getModifiers())) {
                due.yes(f.getName() + " is final", Modifier.isFinal(f.getModifiers()));
            } else {
                own++;
            }
        }
        due.yes("at most twenty fields in " + c, own <= 20);
        for (Method m : c.getDeclaredMethods()) {
            due.yes("at most seven parameters of " + m, m.getParameterCount() <= 7);
        }
    }
}
