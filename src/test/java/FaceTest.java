import java.lang.reflect.Constructor;
import java.lang.reflect.Field;
import java.lang.reflect.Method;
import java.lang.reflect.Modifier;
import java.util.Arrays;
import java.util.Set;
import java.util.TreeSet;

/** The public face of the document, and rules 1, 2, 5 and 10 of the language as far as reflection sees them. */
public final class FaceTest {
    private static final Set<String> TYPES = Set.of("int", "long", "short", "byte", "char", "boolean", "void",
        "int[]", "long[]", "short[]", "byte[]", "char[]", "boolean[]");

    public static void main(String[] args) {
        theClass();
        methods();
        constants();
        language();
        Due.end();
    }

    private static void theClass() {
        Class<?> c = SessionDesk.class;
        Due.due(1, "public final", Modifier.PUBLIC | Modifier.FINAL, c.getModifiers());
        Due.due(1, "nested classes", 0, c.getDeclaredClasses().length);
        Due.due(1, "interfaces", 0, c.getInterfaces().length);
        Constructor<?>[] constructors = c.getDeclaredConstructors();
        Due.due(1, "constructors", 1, constructors.length);
        Due.text(1, "the constructor", "public SessionDesk()", constructors[0].toString());
    }

    private static void methods() {
        String want = "boolean mode(int,boolean) int commit(int) int count(int) int detach(int,int) int find(int,int,int) "
            + "int flush(int) int found(int) int get(int,int) int make(int,int,int,int,int) int merge(int,int,int) "
            + "int persist(int,int) int refer(int,int) int refresh(int,int) int remove(int,int) int rollback(int) "
            + "int statement(int,int) int write(int,int,int,int) long read(int,int,int) long row(int,int)";
        TreeSet<String> got = new TreeSet<>();
        for (Method m : SessionDesk.class.getDeclaredMethods()) {
            if (!Modifier.isPrivate(m.getModifiers())) {
                got.add(m.toString().replace("public ", "").replace("SessionDesk.", ""));
            }
        }
        Due.text(1, "the methods", want, String.join(" ", got));
    }

    private static void constants() {
        TreeSet<String> got = new TreeSet<>();
        for (Field f : SessionDesk.class.getDeclaredFields()) {
            if (!Modifier.isPrivate(f.getModifiers())) {
                got.add(Modifier.toString(f.getModifiers()) + " " + f.getType() + " " + f.getName());
            }
        }
        TreeSet<String> want = new TreeSet<>();
        for (String name : "OK NO BROKEN LOST STALE DUPLICATE BUSY UNSAVED FOREIGN".split(" ")) {
            want.add("public static final int " + name);
        }
        want.add("public static final long BASE");
        Due.text(1, "the constants", want.toString(), got.toString());
    }

    private static void language() {
        TreeSet<String> publicNames = new TreeSet<>();
        for (Method m : SessionDesk.class.getMethods()) {
            publicNames.add(m.getName());
        }
        for (Method m : SessionDesk.class.getDeclaredMethods()) {
            if (Modifier.isPrivate(m.getModifiers())) {
                Due.due(1, m + " bears a public name (rule 1)", false, publicNames.contains(m.getName()));
            }
            Due.due(1, m + " takes at most seven (rule 10)", true, m.getParameterCount() <= 7);
            Due.due(1, m + " answers an array (rule 4)", false, m.getReturnType().isArray());
            Due.due(1, m + " has its type (rule 2)", true, TYPES.contains(m.getReturnType().getTypeName()));
            Due.due(1, m + " has their types (rule 2)", true,
                Arrays.stream(m.getParameterTypes()).allMatch(t -> TYPES.contains(t.getTypeName())));
        }
        int fields = 0;
        for (Field f : SessionDesk.class.getDeclaredFields()) {
            boolean isStatic = Modifier.isStatic(f.getModifiers());
            String type = f.getType().getTypeName();
            Due.due(1, f + " has its type (rule 2)", true, TYPES.contains(type));
            Due.due(1, f + " is a constant (rule 5)", true,
                !isStatic || Modifier.isFinal(f.getModifiers()) && (type.equals("int") || type.equals("long")));
            fields += isStatic ? 0 : 1;
        }
        Due.due(1, "some forty fields (rule 10)", true, fields <= 40);
    }
}
