import java.lang.reflect.Constructor;
import java.lang.reflect.Field;
import java.lang.reflect.Method;
import java.lang.reflect.Modifier;
import java.util.Set;
import java.util.TreeSet;

/** The public face: what the document's code block names, and no other member that can be seen. */
public final class FaceTest {
    private static final String[] METHODS = {
        "int item(int,int,int) IllegalStateException IllegalArgumentException",
        "int sentry(int,boolean) IllegalStateException IllegalArgumentException",
        "int on(int,int,int) IllegalStateException IllegalArgumentException",
        "void when(int,int,int,int) IllegalStateException IllegalArgumentException",
        "int begin(int) IllegalStateException IllegalArgumentException UnsupportedOperationException",
        "int move(int,int) NoSuchElementException IllegalArgumentException IllegalStateException"
                + " UnsupportedOperationException",
        "int set(int,int) IllegalArgumentException UnsupportedOperationException",
        "int value(int)",
        "int instances()",
        "int instance(int,int)",
        "boolean marked(int,int,int)",
        "boolean can(int,int)",
        "int moves()",
        "int history(int,int)",
    };

    public static void main(String[] args) {
        Due due = new Due();
        Class<CaseDesk> face = CaseDesk.class;
        due.is("public final class", face.getModifiers(), Modifier.PUBLIC | Modifier.FINAL);
        due.is("NONE", CaseDesk.NONE, -1);
        due.same("the methods", methods(face, due).toString(), new TreeSet<>(Set.of(METHODS)).toString());
        due.same("the fields", fields(face).toString(), "[NONE]");
        constructors(face, due);
        due.end();
    }

    private static Set<String> methods(Class<?> face, Due due) {
        Set<String> seen = new TreeSet<>();
        Set<String> hidden = new TreeSet<>();
        for (Method m : face.getDeclaredMethods()) {
            if (Modifier.isPrivate(m.getModifiers())) {
                hidden.add(m.getName());
            } else {
                seen.add(describe(m));
            }
        }
        for (String s : seen) {
            String name = s.substring(s.indexOf(' ') + 1, s.indexOf('('));
            due.is("a private method is named " + name, hidden.contains(name), false);
        }
        return seen;
    }

    private static String describe(Method m) {
        StringBuilder text = new StringBuilder(m.getReturnType().getSimpleName());
        text.append(' ').append(m.getName()).append('(');
        String comma = "";
        for (Class<?> p : m.getParameterTypes()) {
            text.append(comma).append(p.getSimpleName());
            comma = ",";
        }
        text.append(')');
        for (Class<?> e : m.getExceptionTypes()) {
            text.append(' ').append(e.getSimpleName());
        }
        return text.toString();
    }

    private static Set<String> fields(Class<?> face) {
        Set<String> seen = new TreeSet<>();
        for (Field f : face.getDeclaredFields()) {
            if (!Modifier.isPrivate(f.getModifiers())) {
                seen.add(f.getName());
            }
        }
        return seen;
    }

    private static void constructors(Class<?> face, Due due) {
        Constructor<?>[] all = face.getDeclaredConstructors();
        due.is("constructors", all.length, 1);
        due.is("the constructor's parameters", all[0].getParameterCount(), 0);
        due.is("the constructor is public", Modifier.isPublic(all[0].getModifiers()), true);
    }
}
