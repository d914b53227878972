import java.lang.reflect.Constructor;
import java.lang.reflect.Field;
import java.lang.reflect.Member;
import java.lang.reflect.Method;
import java.lang.reflect.Modifier;
import java.util.Arrays;
import java.util.Set;
import java.util.TreeSet;

/** The class shows the document's face and nothing else, and keeps to what is told of classes. */
public final class FaceTest {
    private static final String[] FACE = {
        "int type(int)", "int clear()", "int sentence()", "int sun(int)", "int bribe(int, int)",
        "int trade(int, int)", "int winds(int, int)", "int watches()", "int pays(int, int)",
        "int corrects(int)", "int undo()", "int now(int)", "int soonest()", "int chance(int, int)",
        "int safe(int)", "int least(int, int)", "int catches(int)", "int hears(int, int, int)",
        "int forget()", "int could(int)", "int ways()", "int ask()", "int mark(int, int)",
        "int keep(int)", "int back(int)", "int count(int)", "long trace()",
    };
    private static final Set<String> CONSTANTS = Set.of("BAD", "STATE", "FULL", "NONE", "NO");

    private static String told(Method m) {
        StringBuilder s = new StringBuilder(m.getReturnType() + " " + m.getName() + "(");
        Class<?>[] types = m.getParameterTypes();
        for (int i = 0; i < types.length; i++) {
            s.append(i == 0 ? "" : ", ").append(types[i]);
        }
        return s.append(")").toString();
    }

    private static boolean isPrivate(Member m) {
        return Modifier.isPrivate(m.getModifiers());
    }

    private static void face() {
        Class<?> c = TowerPrisoner.class;
        Check.holds("public", Modifier.isPublic(c.getModifiers()));
        Check.holds("final", Modifier.isFinal(c.getModifiers()));
        Check.holds("no package", c.getPackageName().isEmpty());
        Check.due("constructors", c.getDeclaredConstructors().length, 1);
        for (Constructor<?> made : c.getDeclaredConstructors()) {
            Check.holds("a public one", Modifier.isPublic(made.getModifiers()));
            Check.due("of no parameters", made.getParameterCount(), 0);
        }
        Set<String> shown = new TreeSet<>();
        for (Method m : c.getDeclaredMethods()) {
            if (!isPrivate(m)) {
                Check.holds(m + " is public, not static", m.getModifiers() == Modifier.PUBLIC);
                shown.add(told(m));
            }
        }
        Set<String> wanted = new TreeSet<>(Arrays.asList(FACE));
        Check.holds("methods " + shown, shown.equals(wanted));
        Set<String> constants = new TreeSet<>();
        for (Field f : c.getDeclaredFields()) {
            if (!isPrivate(f)) {
                int wants = Modifier.PUBLIC | Modifier.STATIC | Modifier.FINAL;
                Check.holds(f + " is a constant", f.getModifiers() == wants);
                Check.holds(f + " is an int", f.getType() == int.class);
                constants.add(f.getName());
            }
        }
        Check.holds("constants " + constants, constants.equals(CONSTANTS));
    }

    private static void inside(Class<?> c, Set<String> publicNames) {
        int fields = 0;
        for (Field f : c.getDeclaredFields()) {
            if (Modifier.isStatic(f.getModifiers())) {
                Check.holds(f + " is final", Modifier.isFinal(f.getModifiers()));
            } else {
                fields++;
            }
        }
        Check.holds(c + " has twenty fields at most", fields <= 20);
        for (Method m : c.getDeclaredMethods()) {
            Check.holds(m + " takes seven at most", m.getParameterCount() <= 7);
            boolean bears = publicNames.contains(m.getName());
            Check.holds(m + " bears no public name", !bears || c == TowerPrisoner.class
                    && !isPrivate(m));
        }
    }

    public static void main(String[] args) {
        face();
        Set<String> names = new TreeSet<>();
        for (String call : FACE) {
            names.add(call.substring(call.indexOf(' ') + 1, call.indexOf('(')));
        }
        inside(TowerPrisoner.class, names);
        Class<?>[] inner = TowerPrisoner.class.getDeclaredClasses();
        Check.holds("some twelve classes at most", inner.length <= 12);
        for (Class<?> c : inner) {
            Check.holds(c + " is static", Modifier.isStatic(c.getModifiers()));
            Check.holds(c + " is not public", !Modifier.isPublic(c.getModifiers())
                    && !Modifier.isProtected(c.getModifiers()));
            inside(c, names);
        }
        Check.end();
    }
}
