import java.lang.reflect.Constructor;
import java.lang.reflect.Field;
import java.lang.reflect.Method;
import java.lang.reflect.Modifier;
import java.util.Set;
import java.util.TreeSet;

/** The public face, and rule 1 of the language: nothing else of the class can be seen from outside. */
public final class FaceTest {
    private static final Set<String> METHODS = new TreeSet<>(Set.of(
        "boolean poke(int,int)", "int peek(int)", "int bare(int)", "boolean give(int,int)", "int register(int)",
        "int pc()", "boolean boot(int)", "boolean halted()", "int call(int,int,int,int)", "int run(int)",
        "void period(int)", "int tick()", "int running()", "int region(int)", "int enclave(int)",
        "int thread(int,int)", "int kept(int,int,int)", "int measure(int)", "boolean vouch(int,int,int)", "int exit(int)"));

    public static void main(String[] args) {
        Due due = new Due();
        constants(due);
        methods(due);
        fieldsAndConstructors(due);
        classesInside(due);
        due.end();
    }

    private static void constants(Due due) {
        due.is("NONE", EnclaveWarden.NONE, -1);
        due.is("BAD", EnclaveWarden.BAD, -2);
        due.is("STATE", EnclaveWarden.STATE, -3);
        due.is("TAKEN", EnclaveWarden.TAKEN, -4);
        due.is("FULL", EnclaveWarden.FULL, -5);
        due.is("BUSY", EnclaveWarden.BUSY, -6);
    }

    private static void methods(Due due) {
        Set<String> seen = new TreeSet<>();
        Set<String> names = new TreeSet<>();
        for (Method m : EnclaveWarden.class.getDeclaredMethods()) {
            if (!Modifier.isPrivate(m.getModifiers())) {
                seen.add(shape(m));
                names.add(m.getName());
            }
        }
        due.yes("the methods " + seen, seen.equals(METHODS));
        privateNames(due, EnclaveWarden.class, names);
        for (Class<?> c : EnclaveWarden.class.getDeclaredClasses()) {
            privateNames(due, c, names);
        }
    }

    private static void privateNames(Due due, Class<?> c, Set<String> publicNames) {
        for (Method m : c.getDeclaredMethods()) {
            if (Modifier.isPrivate(m.getModifiers())) {
                due.no("private " + m.getName() + " has a public name", publicNames.contains(m.getName()));
            }
        }
    }

    private static String shape(Method m) {
        StringBuilder types = new StringBuilder();
        for (Class<?> t : m.getParameterTypes()) {
            types.append(types.length() == 0 ? "" : ",").append(t.getName());
        }
        return m.getReturnType().getName() + " " + m.getName() + "(" + types + ")";
    }

    private static void fieldsAndConstructors(Due due) {
        due.yes("the class is final", Modifier.isFinal(EnclaveWarden.class.getModifiers()));
        due.is("fields to be seen", EnclaveWarden.class.getFields().length, 6);
        for (Field f : EnclaveWarden.class.getDeclaredFields()) {
            int m = f.getModifiers();
            due.yes(f.getName() + " is public or private", Modifier.isPublic(m) || Modifier.isPrivate(m));
            due.yes(f.getName() + " is final if static", Modifier.isFinal(m) || !Modifier.isStatic(m));
        }
        Constructor<?>[] made = EnclaveWarden.class.getDeclaredConstructors();
        due.is("constructors", made.length, 1);
        due.yes("the constructor is public", Modifier.isPublic(made[0].getModifiers()));
    }

    private static void classesInside(Due due) {
        for (Class<?> c : EnclaveWarden.class.getDeclaredClasses()) {
            due.yes(c.getName() + " is static", Modifier.isStatic(c.getModifiers()));
            due.no(c.getName() + " is public", Modifier.isPublic(c.getModifiers()));
        }
    }
}
