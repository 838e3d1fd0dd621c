import java.lang.reflect.Constructor;
import java.lang.reflect.Field;
import java.lang.reflect.Method;
import java.lang.reflect.Modifier;
import java.util.Arrays;
import java.util.Set;
import java.util.TreeSet;
import java.util.stream.Collectors;

/** The face of the class: all that the document names, and nothing else that could be seen from outside. */
public final class FaceTest {
    private static final String[] METHODS = {
        "int feed(int,int,int,int,int)", "int tell(int) IllegalArgumentException", "int fault()", "int again()",
        "int step(int) IllegalArgumentException", "int run(int,int) IllegalArgumentException",
        "int count(int) NoSuchElementException", "int node(int,int) NoSuchElementException",
        "int active(int,int) NoSuchElementException", "int wanted(int) NoSuchElementException",
        "int part(int,int) NoSuchElementException", "int say(int) IllegalArgumentException", "int said(int)",
        "boolean same(int,int) IllegalArgumentException,NoSuchElementException", "int plain(int) IllegalArgumentException",
        "int redexes(int) IllegalArgumentException,NoSuchElementException",
        "int trial(int,int) IllegalArgumentException,NoSuchElementException",
    };

    public static void main(String[] args) {
        Due.is("public and final", Modifier.isPublic(FanNet.class.getModifiers()) && Modifier.isFinal(FanNet.class.getModifiers()), true);
        Due.is("NONE", FanNet.NONE, -1);
        methods();
        fields();
        Constructor<?>[] made = FanNet.class.getDeclaredConstructors();
        Due.is("one constructor", made.length, 1);
        Due.is("public, without arguments", Modifier.isPublic(made[0].getModifiers()) && made[0].getParameterCount() == 0, true);
        for (Class<?> inner : FanNet.class.getDeclaredClasses()) {
            boolean hidden = !Modifier.isPublic(inner.getModifiers()) && !Modifier.isProtected(inner.getModifiers());
            Due.is(inner.getName() + " is hidden and static", hidden && Modifier.isStatic(inner.getModifiers()), true);
        }
        Due.is("few classes", FanNet.class.getDeclaredClasses().length < 12, true);
        Due.end();
    }

    private static void methods() {
        Set<String> found = new TreeSet<>();
        Set<String> names = new TreeSet<>();
        for (Method m : FanNet.class.getDeclaredMethods()) {
            if (Modifier.isPublic(m.getModifiers())) {
                found.add(text(m));
                names.add(m.getName());
            }
        }
        Due.is("public methods", found.toString(), new TreeSet<>(Arrays.asList(METHODS)).toString());
        for (Method m : FanNet.class.getDeclaredMethods()) {
            boolean seen = Modifier.isPublic(m.getModifiers());
            Due.is(m.getName() + " is public or private", seen || Modifier.isPrivate(m.getModifiers()), true);
            Due.is(m.getName() + " bears no public name", !seen && names.contains(m.getName()), false);
        }
        for (Class<?> inner : FanNet.class.getDeclaredClasses()) {
            for (Method m : inner.getDeclaredMethods()) {
                Due.is(inner.getSimpleName() + "." + m.getName() + " bears no public name", names.contains(m.getName()), false);
                Due.is(m.getName() + " takes few arguments", m.getParameterCount() <= 7, true);
            }
        }
    }

    private static String text(Method m) {
        String arguments = Arrays.stream(m.getParameterTypes()).map(Class::getSimpleName).collect(Collectors.joining(","));
        String thrown = Arrays.stream(m.getExceptionTypes()).map(Class::getSimpleName).collect(Collectors.joining(","));
        return (m.getReturnType().getSimpleName() + " " + m.getName() + "(" + arguments + ") " + thrown).trim();
    }

    private static void fields() {
        int own = 0;
        for (Field f : FanNet.class.getDeclaredFields()) {
            boolean constant = Modifier.isStatic(f.getModifiers());
            own += constant ? 0 : 1;
            Due.is(f.getName() + " is private", Modifier.isPrivate(f.getModifiers()), !f.getName().equals("NONE"));
            Due.is(f.getName() + " is final if static", constant && !Modifier.isFinal(f.getModifiers()), false);
        }
        Due.is("few fields", own <= 20, true);
    }
}
