import java.lang.reflect.Constructor;
import java.lang.reflect.Field;
import java.lang.reflect.Method;
import java.lang.reflect.Modifier;
import java.util.Arrays;
import java.util.List;
import java.util.Set;
import java.util.TreeSet;

/** The document's public face, whole, and no member beside it that can be seen (LANGUAGE.md, rules 1 and 5). */
public final class PublicFaceTest {
    private static final List<String> CONSTANTS = Arrays.asList(
        "ADD=0", "SUB=1", "XOR=2", "LESS=3", "ADDI=4", "LOAD=5", "STORE=6", "BZ=7", "BN=8", "JMP=9", "HALT=10",
        "RUNNING=0", "HALTED=1", "OUT=2", "BAD=-1", "FULL=-2");

    private static final List<String> METHODS = Arrays.asList(
        "public int TraceFrontEnd.emit(int,int,int,int)",
        "public int TraceFrontEnd.amend(int,int)",
        "public void TraceFrontEnd.restart()",
        "public int TraceFrontEnd.run(int)",
        "public int TraceFrontEnd.register(int)",
        "public boolean TraceFrontEnd.setRegister(int,int)",
        "public int TraceFrontEnd.memory(int)",
        "public boolean TraceFrontEnd.setMemory(int,int)",
        "public int TraceFrontEnd.place()",
        "public int TraceFrontEnd.status()",
        "public void TraceFrontEnd.clear()");

    public static void main(String[] args) throws Exception {
        constants();
        methods();
        theClassItself();
        Due.finish();
    }

    private static void constants() throws IllegalAccessException {
        Set<String> seen = new TreeSet<>();
        for (Field f : TraceFrontEnd.class.getDeclaredFields()) {
            int m = f.getModifiers();
            if (Modifier.isPrivate(m)) {
                continue;
            }
            boolean constant = Modifier.isPublic(m) && Modifier.isStatic(m) && Modifier.isFinal(m);
            Due.due(f.getName() + " is a public int constant", constant && f.getType() == int.class, true);
            seen.add(f.getName() + "=" + f.getInt(null));
        }
        Due.sameText("the constants", seen.toString(), new TreeSet<>(CONSTANTS).toString());
    }

    private static void methods() {
        Set<String> seen = new TreeSet<>();
        Set<String> names = new TreeSet<>();
        for (Method m : TraceFrontEnd.class.getDeclaredMethods()) {
            if (!Modifier.isPrivate(m.getModifiers())) {
                seen.add(m.toString());
                names.add(m.getName());
            }
        }
        Due.sameText("the methods", seen.toString(), new TreeSet<>(METHODS).toString());
        for (Method m : TraceFrontEnd.class.getDeclaredMethods()) {
            boolean clash = Modifier.isPrivate(m.getModifiers()) && names.contains(m.getName());
            Due.due("private " + m.getName() + " bears a public name", clash, false);
        }
    }

    private static void theClassItself() {
        Constructor<?>[] made = TraceFrontEnd.class.getDeclaredConstructors();
        Due.due("the number of constructors", made.length, 1);
        Due.sameText("the constructor", made[0].toString(), "public TraceFrontEnd()");
        Due.sameText("the class", Modifier.toString(TraceFrontEnd.class.getModifiers()), "public final");
        Due.due("the number of nested classes", TraceFrontEnd.class.getDeclaredClasses().length, 0);
    }
}
