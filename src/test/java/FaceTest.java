import java.lang.reflect.Constructor;
import java.lang.reflect.Field;
import java.lang.reflect.Method;
import java.lang.reflect.Modifier;
import java.util.Set;
import java.util.TreeSet;

/** The public face: just the members of the document, and private names of its own for all others. */
public final class FaceTest {
    private static final String[] METHODS = {"turn 1", "power 1", "brownout 1", "charge 1", "count 1", "undo 0",
        "disk 3", "noise 2", "set 2", "reading 1", "found 4", "byTwo 4", "correct 3", "correction 2", "learn 0",
        "look 1", "survey 2", "poor 0", "sample 0", "reason 0", "forget 0", "apart 0", "type 1", "clearText 0",
        "fault 1", "load 0"};
    private static final Due due = new Due();

    public static void main(String[] args) throws Exception {
        constants();
        methods();
        constructorAndClasses();
        due.end();
    }

    private static void constants() throws Exception {
        String[] names = {"INVALID_ARGUMENT", "NOT_POSSIBLE", "LIMIT_REACHED", "NOT_FOUND"};
        for (int index = 0; index < names.length; index++) {
            Field constant = VernierEncoder.class.getDeclaredField(names[index]);
            due.is(names[index], constant.getInt(null), -1 - index);
            due.is("modifiers of " + names[index], constant.getModifiers(),
                    Modifier.PUBLIC | Modifier.STATIC | Modifier.FINAL);
        }
        int open = 0;
        for (Field field : VernierEncoder.class.getDeclaredFields()) {
            open += Modifier.isPrivate(field.getModifiers()) ? 0 : 1;
            due.holds(field.getName() + " is no static state",
                    !Modifier.isStatic(field.getModifiers()) || Modifier.isFinal(field.getModifiers()));
        }
        due.is("fields that are not private", open, names.length);
    }

    private static void methods() {
        Set<String> want = new TreeSet<>(Set.of(METHODS));
        Set<String> names = new TreeSet<>();
        for (String method : METHODS) {
            names.add(method.substring(0, method.indexOf(' ')));
        }
        Set<String> got = new TreeSet<>();
        for (Method method : VernierEncoder.class.getDeclaredMethods()) {
            if (Modifier.isPrivate(method.getModifiers())) {
                due.holds("private " + method.getName() + " has a name of its own", !names.contains(method.getName()));
                continue;
            }
            got.add(method.getName() + " " + method.getParameterCount());
            due.is("modifiers of " + method.getName(), method.getModifiers(), Modifier.PUBLIC);
            due.holds(method.getName() + " returns int", method.getReturnType() == int.class);
            for (Class<?> type : method.getParameterTypes()) {
                due.holds(method.getName() + " takes int", type == int.class);
            }
        }
        due.holds("the methods are " + want + ", not " + got, want.equals(got));
    }

    private static void constructorAndClasses() {
        due.is("modifiers of the class", VernierEncoder.class.getModifiers(), Modifier.PUBLIC | Modifier.FINAL);
        Constructor<?>[] constructors = VernierEncoder.class.getDeclaredConstructors();
        due.is("constructors", constructors.length, 1);
        due.is("parameters of the constructor", constructors[0].getParameterCount(), 0);
        due.is("modifiers of the constructor", constructors[0].getModifiers(), Modifier.PUBLIC);
        for (Class<?> inside : VernierEncoder.class.getDeclaredClasses()) {
            due.holds(inside.getName() + " is static", Modifier.isStatic(inside.getModifiers()));
            due.holds(inside.getName() + " is not public",
                    (inside.getModifiers() & (Modifier.PUBLIC | Modifier.PROTECTED)) == 0);
            classInside(inside);
        }
    }

    private static void classInside(Class<?> inside) {
        int fields = 0;
        for (Field field : inside.getDeclaredFields()) {
            fields += Modifier.isStatic(field.getModifiers()) ? 0 : 1;
            due.holds(field + " is private", Modifier.isPrivate(field.getModifiers()));
        }
        due.holds(inside.getName() + " has few fields", fields <= 20);
        for (Method method : inside.getDeclaredMethods()) {
            due.holds(method + " is private", Modifier.isPrivate(method.getModifiers()));
            due.holds(method + " has few parameters", method.getParameterCount() <= 7);
            for (String open : METHODS) {
                due.holds(method + " has a name of its own",
                        !open.substring(0, open.indexOf(' ')).equals(method.getName()));
            }
        }
    }
}
