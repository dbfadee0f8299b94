import java.lang.reflect.Constructor;
import java.lang.reflect.Field;
import java.lang.reflect.Method;
import java.lang.reflect.Modifier;
import java.util.Arrays;
import java.util.Set;
import java.util.TreeSet;
import java.util.stream.Collectors;

/** The public face of the document, and no other member that is not private (rule 1 of LANGUAGE.md). */
final class FaceTest {
    private static final String[] METHODS = {
        "int open(int,int,int) IllegalArgumentException,IllegalStateException",
        "int load(int,int,int) IllegalArgumentException,IllegalStateException",
        "int insert(int) IllegalStateException,NoSuchElementException,UnsupportedOperationException",
        "int pin(int) IllegalStateException",
        "int eject() IllegalStateException",
        "int withdraw(int) IllegalStateException,IllegalArgumentException,"
            + "UnsupportedOperationException,IndexOutOfBoundsException",
        "int mix(int,int) IllegalArgumentException,UnsupportedOperationException",
        "int line(int) IllegalArgumentException,IllegalStateException",
        "int jam(int) IllegalArgumentException",
        "int power(int) IllegalArgumentException",
        "int boot() IllegalStateException",
        "int settle() IllegalStateException",
        "int balance(int) NoSuchElementException",
        "int trace(int,int) NoSuchElementException,IllegalArgumentException",
        "int reversal(int) NoSuchElementException",
        "int notes(int) IllegalArgumentException",
        "int difference() ",
        "int count(int) IllegalArgumentException",
    };

    public static void main(String[] args) {
        Probe probe = new Probe("the face");
        probe.due(-1, "DECLINED", m -> CashMachine.DECLINED);
        probe.due(-2, "NO_ANSWER", m -> CashMachine.NO_ANSWER);
        probe.due(-3, "POWER", m -> CashMachine.POWER);
        probe.compare("class", "public final", Modifier.toString(CashMachine.class.getModifiers()));
        probe.compare("methods", new TreeSet<>(Arrays.asList(METHODS)).toString(), visibleMethods().toString());
        probe.compare("fields", "[DECLINED, NO_ANSWER, POWER]", visibleFields().toString());
        probe.compare("constructors", "[public CashMachine()]", constructors().toString());
        probe.compare("private methods with a public name", "[]", sharedNames().toString());
        Probe.end();
    }

    private static Set<String> visibleMethods() {
        Set<String> found = new TreeSet<>();
        for (Method method : CashMachine.class.getDeclaredMethods()) {
            if (!Modifier.isPrivate(method.getModifiers())) {
                found.add(method.getReturnType().getSimpleName() + " " + method.getName()
                        + "(" + names(method.getParameterTypes()) + ") " + names(method.getExceptionTypes()));
            }
        }
        return found;
    }

    private static String names(Class<?>[] types) {
        return Arrays.stream(types).map(Class::getSimpleName).collect(Collectors.joining(","));
    }

    private static Set<String> visibleFields() {
        Set<String> found = new TreeSet<>();
        for (Field field : CashMachine.class.getDeclaredFields()) {
            if (!Modifier.isPrivate(field.getModifiers())) {
                found.add(field.getName());
            }
        }
        return found;
    }

    private static Set<String> constructors() {
        Set<String> found = new TreeSet<>();
        for (Constructor<?> constructor : CashMachine.class.getDeclaredConstructors()) {
            found.add(constructor.toString());
        }
        return found;
    }

    private static Set<String> sharedNames() {
        Set<String> shared = new TreeSet<>();
        Set<String> open = new TreeSet<>();
        for (Method method : CashMachine.class.getMethods()) {
            open.add(method.getName());
        }
        for (Class<?> inside : CashMachine.class.getDeclaredClasses()) {
            addPrivateNames(inside, open, shared);
        }
        addPrivateNames(CashMachine.class, open, shared);
        return shared;
    }

    private static void addPrivateNames(Class<?> type, Set<String> open, Set<String> shared) {
        for (Method method : type.getDeclaredMethods()) {
            if (!Modifier.isPublic(method.getModifiers()) && open.contains(method.getName())) {
                shared.add(type.getSimpleName() + "." + method.getName());
            }
        }
    }
}
