import java.lang.reflect.Constructor;
import java.lang.reflect.Field;
import java.lang.reflect.Method;
import java.lang.reflect.Modifier;
import java.util.Arrays;
import java.util.TreeSet;

/** The public face: what the document has, and no other member that can be seen from outside. */
public final class FaceTest {
    private static final String[] METHODS = {
        "int feed(int,int,int,int,int)",
        "int load(int) IllegalArgumentException",
        "int plan(int) IllegalArgumentException",
        "int fault(int)",
        "int run(int) IllegalArgumentException IllegalStateException",
        "boolean command(int,int,int) IllegalArgumentException",
        "int part(int,int) IndexOutOfBoundsException NoSuchElementException",
        "int ask(int,int) IndexOutOfBoundsException NoSuchElementException",
        "int note(int,int) NoSuchElementException",
        "int at(int)",
        "int name(int,int) IndexOutOfBoundsException",
        "int kept(int,int) IllegalArgumentException IndexOutOfBoundsException",
        "int down(int)",
        "int item(int,int)",
        "int craft(int)"
    };

    private static String joined(Class<?>[] types, String gap) {
        return String.join(gap, Arrays.stream(types).map(Class::getSimpleName).toList());
    }

    private static String shown(Method m) {
        String text = m.getReturnType().getSimpleName() + " " + m.getName() + "(" + joined(m.getParameterTypes(), ",") + ")";
        Class<?>[] thrown = m.getExceptionTypes().clone();
        Arrays.sort(thrown, (x, y) -> x.getSimpleName().compareTo(y.getSimpleName()));
        return thrown.length == 0 ? text : text + " " + joined(thrown, " ");
    }

    public static void main(String[] args) throws Exception {
        Class<?> face = SmallCraft.class;
        Check.due("public final", face.getModifiers(), Modifier.PUBLIC | Modifier.FINAL);
        TreeSet<String> seen = new TreeSet<>();
        TreeSet<String> hidden = new TreeSet<>();
        for (Method m : face.getDeclaredMethods()) {
            if (Modifier.isPrivate(m.getModifiers())) {
                hidden.add(m.getName());
            } else {
                seen.add(shown(m));
                Check.due(m.getName() + " public and no more", m.getModifiers(), Modifier.PUBLIC);
            }
        }
        Check.due("the methods " + seen, seen.equals(new TreeSet<>(Arrays.asList(METHODS))), true);
        for (Method m : face.getDeclaredMethods()) {
            boolean twice = !Modifier.isPrivate(m.getModifiers()) && hidden.contains(m.getName());
            Check.due("a private method of a public one's name: " + m.getName(), twice, false);
        }
        Constructor<?>[] made = face.getDeclaredConstructors();
        Check.due("constructors", made.length, 1);
        Check.due("its parameters", made[0].getParameterCount(), 0);
        Check.due("it is public", made[0].getModifiers(), Modifier.PUBLIC);
        for (Field f : face.getDeclaredFields()) {
            boolean none = f.getName().equals("NONE");
            Check.due(f.getName() + " is private", Modifier.isPrivate(f.getModifiers()), !none);
        }
        int constant = Modifier.PUBLIC | Modifier.STATIC | Modifier.FINAL;
        Check.due("NONE is a public constant", face.getField("NONE").getModifiers(), constant);
        Check.due("NONE", SmallCraft.NONE, -1);
        for (Class<?> inside : face.getDeclaredClasses()) {
            boolean fine = Modifier.isStatic(inside.getModifiers()) && Modifier.isPrivate(inside.getModifiers());
            Check.due(inside.getName() + " is private and static", fine, true);
        }
        Check.end();
    }
}
