import java.lang.reflect.Constructor;
import java.lang.reflect.Field;
import java.lang.reflect.Method;
import java.lang.reflect.Modifier;
import java.util.Arrays;
import java.util.TreeMap;
import java.util.TreeSet;

/** The class has the document's face, and no other member that can be seen from outside. */
public final class FaceTest {
    private static final String[] METHODS = {
        "void format(int,int) IllegalArgumentException",
        "int feed(int,long,long) IllegalArgumentException,UnsupportedOperationException",
        "int put(int) IllegalStateException,IllegalArgumentException",
        "int remove() IllegalStateException,IllegalArgumentException",
        "int get() IllegalStateException",
        "int answer(int) ",
        "void power(int) IllegalStateException,IllegalArgumentException",
        "int recover(int) IllegalArgumentException",
        "int byteOf(int,int) ",
        "int kind(int) ",
        "int hash() ",
        "int entry(int) ",
        "int bucket(int,int) ",
        "int record(int,int,int,int) ",
        "int look(int) ",
    };

    private static String names(Class<?>[] types) {
        StringBuilder text = new StringBuilder();
        for (Class<?> type : types) {
            text.append(text.length() == 0 ? "" : ",").append(type.getSimpleName());
        }
        return text.toString();
    }

    private static void methods() {
        TreeSet<String> due = new TreeSet<>(Arrays.asList(METHODS));
        TreeSet<String> seen = new TreeSet<>();
        TreeSet<String> openNames = new TreeSet<>();
        TreeSet<String> privateNames = new TreeSet<>();
        for (Method method : HashPages.class.getDeclaredMethods()) {
            if (Modifier.isPrivate(method.getModifiers())) {
                privateNames.add(method.getName());
                continue;
            }
            openNames.add(method.getName());
            seen.add(method.getReturnType().getSimpleName() + " " + method.getName() + "("
                + names(method.getParameterTypes()) + ") " + names(method.getExceptionTypes()));
            Check.same("modifiers of " + method.getName(), method.getModifiers(), Modifier.PUBLIC);
        }
        Check.holds("the methods are " + seen, seen.equals(due));
        privateNames.retainAll(openNames);
        Check.holds("private methods with a public name: " + privateNames, privateNames.isEmpty());
    }

    private static void fields() throws IllegalAccessException {
        TreeMap<String, Integer> due = new TreeMap<>();
        due.put("NONE", -1);
        due.put("DONE", 0);
        due.put("DISK", 1);
        due.put("LOG", 2);
        due.put("ALIKE", 3);
        due.put("DOWN", 4);
        TreeMap<String, Integer> seen = new TreeMap<>();
        for (Field field : HashPages.class.getDeclaredFields()) {
            int modifiers = field.getModifiers();
            if (Modifier.isStatic(modifiers)) {
                Check.holds("the static field " + field.getName() + " is final", Modifier.isFinal(modifiers));
            }
            if (!Modifier.isPrivate(modifiers)) {
                Check.same("modifiers of " + field.getName(), modifiers,
                    Modifier.PUBLIC | Modifier.STATIC | Modifier.FINAL);
                seen.put(field.getName(), field.getInt(null));
            }
        }
        Check.holds("the constants are " + seen, seen.equals(due));
    }

    private static void classes() {
        Check.same("modifiers of the class", HashPages.class.getModifiers(), Modifier.PUBLIC | Modifier.FINAL);
        Constructor<?>[] constructors = HashPages.class.getDeclaredConstructors();
        Check.same("constructors", constructors.length, 1);
        Check.same("modifiers of the constructor", constructors[0].getModifiers(), Modifier.PUBLIC);
        Check.same("parameters of the constructor", constructors[0].getParameterCount(), 0);
        for (Class<?> inside : HashPages.class.getDeclaredClasses()) {
            int modifiers = inside.getModifiers();
            Check.holds(inside + " is static", Modifier.isStatic(modifiers));
            Check.holds(inside + " is not public or protected",
                !Modifier.isPublic(modifiers) && !Modifier.isProtected(modifiers));
        }
    }

    public static void main(String[] args) throws IllegalAccessException {
        methods();
        fields();
        classes();
        Check.end();
    }
}
