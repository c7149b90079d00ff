import java.lang.reflect.Constructor;
import java.lang.reflect.Field;
import java.lang.reflect.Method;
import java.lang.reflect.Modifier;
import java.util.Map;
import java.util.Set;
import java.util.TreeSet;

/** The public face, and what LANGUAGE.md's rules 1 and 5 say of members. */
public final class FaceTest {
    private static final Map<String, Integer> CONSTANTS = Map.of("RETIRED", 0, "TRAPPED", 1, "INTERRUPTED", 2,
            "WAITS", 3, "REFUSED", 4, "BAD", -2);
    private static final Set<String> METHODS = Set.of("void reset()", "boolean poke(int,int)", "boolean load(int,int)",
            "int peek(int)", "int step()", "int run(int)", "void tick()", "int reg(int)", "int pc()", "int csr(int)",
            "long told(int)", "int outSize()", "int out(int)");

    public static void main(String[] args) throws Exception {
        Due.due("RvCore is public and final", Modifier.isPublic(RvCore.class.getModifiers())
                && Modifier.isFinal(RvCore.class.getModifiers()), true);
        constants();
        constructors();
        methods();
        insideClasses();
        Due.end();
    }

    private static void constants() throws Exception {
        int found = 0;
        for (Field field : RvCore.class.getDeclaredFields()) {
            int modifiers = field.getModifiers();
            if (!Modifier.isPrivate(modifiers)) {
                found++;
                Due.due(field.getName() + " is of the document", CONSTANTS.containsKey(field.getName()), true);
                Due.due(field.getName() + " is a constant", Modifier.isPublic(modifiers) && Modifier.isStatic(modifiers)
                        && Modifier.isFinal(modifiers) && field.getType() == int.class, true);
                Due.due(field.getName(), field.getInt(null), CONSTANTS.getOrDefault(field.getName(), -99));
            }
        }
        Due.due("how many constants", found, CONSTANTS.size());
    }

    private static void constructors() {
        Constructor<?>[] all = RvCore.class.getDeclaredConstructors();
        Due.due("how many constructors", all.length, 1);
        Due.due("the constructor", all[0].toString().equals("public RvCore(int,int)"), true);
    }

    private static String shape(Method method) {
        StringBuilder text = new StringBuilder(method.getReturnType() + " " + method.getName() + "(");
        for (Class<?> type : method.getParameterTypes()) {
            text.append(text.charAt(text.length() - 1) == '(' ? "" : ",").append(type);
        }
        return text.append(')').toString();
    }

    private static void methods() {
        Set<String> names = new TreeSet<>();
        int found = 0;
        for (String method : METHODS) {
            names.add(method.substring(method.indexOf(' ') + 1, method.indexOf('(')));
        }
        for (Method method : RvCore.class.getDeclaredMethods()) {
            if (Modifier.isPrivate(method.getModifiers())) {
                Due.due(method.getName() + " bears the name of a public one", names.contains(method.getName()), false);
            } else {
                found++;
                Due.due(shape(method) + " is of the document", METHODS.contains(shape(method))
                        && Modifier.isPublic(method.getModifiers()), true);
            }
        }
        Due.due("how many methods", found, METHODS.size());
    }

    private static void insideClasses() {
        for (Class<?> inside : RvCore.class.getDeclaredClasses()) {
            Due.due(inside + " is static", Modifier.isStatic(inside.getModifiers()), true);
            for (Field field : inside.getDeclaredFields()) {
                int modifiers = field.getModifiers();
                Due.due(field + " is final if static", !Modifier.isStatic(modifiers) || Modifier.isFinal(modifiers), true);
            }
        }
    }
}
