import java.lang.reflect.Constructor;
import java.lang.reflect.Field;
import java.lang.reflect.Method;
import java.lang.reflect.Modifier;
import java.util.Arrays;
import java.util.TreeSet;

/** The public face: the members that the document names, and no others that are seen from outside. */
public final class FaceTest {
    private static final String[] FACE = {
        "boolean CapMachine.tagged(int)",
        "int CapMachine.cause()",
        "int CapMachine.look(int,int) throws java.lang.IllegalArgumentException",
        "int CapMachine.peek(int) throws java.lang.IllegalArgumentException",
        "int CapMachine.run(int)",
        "int CapMachine.state()",
        "void CapMachine.grant(int,int,int,int,int) throws java.lang.IllegalArgumentException",
        "void CapMachine.poke(int,int,int) throws java.lang.IllegalArgumentException",
    };

    public static void main(String[] args) {
        TreeSet<String> names = new TreeSet<>();
        TreeSet<String> members = new TreeSet<>();
        for (Method method : CapMachine.class.getDeclaredMethods()) {
            if (!Modifier.isPrivate(method.getModifiers()) && !method.isSynthetic()) {
                members.add(method.toGenericString().replaceFirst("^public ", ""));
                names.add(method.getName());
            }
        }
        Checks.due("the methods are those of the document", members.equals(new TreeSet<>(Arrays.asList(FACE))), true);
        for (Method method : CapMachine.class.getDeclaredMethods()) {
            boolean clashes = Modifier.isPrivate(method.getModifiers()) && names.contains(method.getName());
            Checks.due("private " + method.getName() + " bears a public name", clashes, false);
        }
        for (Field field : CapMachine.class.getDeclaredFields()) {
            Checks.due("field " + field.getName() + " is private", Modifier.isPrivate(field.getModifiers()), true);
            boolean changes = Modifier.isStatic(field.getModifiers()) && !Modifier.isFinal(field.getModifiers());
            Checks.due("static field " + field.getName() + " may change", changes, false);
        }
        for (Class<?> inside : CapMachine.class.getDeclaredClasses()) {
            int modifiers = inside.getModifiers();
            boolean seen = Modifier.isPublic(modifiers) || Modifier.isProtected(modifiers);
            Checks.due("class " + inside.getName() + " is static, and hidden", Modifier.isStatic(modifiers) && !seen, true);
        }
        Constructor<?>[] constructors = CapMachine.class.getDeclaredConstructors();
        Checks.due("constructors", constructors.length, 1);
        Checks.due("parameters of the constructor", constructors[0].getParameterCount(), 0);
        Checks.due("the constructor is public", Modifier.isPublic(constructors[0].getModifiers()), true);
        int modifiers = CapMachine.class.getModifiers();
        Checks.due("the class is public and final", Modifier.isPublic(modifiers) && Modifier.isFinal(modifiers), true);
        Checks.end();
    }
}
