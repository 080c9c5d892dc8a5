import java.lang.reflect.Constructor;
import java.lang.reflect.Field;
import java.lang.reflect.Member;
import java.lang.reflect.Method;
import java.lang.reflect.Modifier;
import java.util.HashMap;
import java.util.List;
import java.util.Map;
import java.util.Set;
import java.util.TreeSet;

/** The document's public face, and rule 1 of the language: nothing else can be seen. */
final class FaceTest {
    private static final String[] METHODS = {"int begin(int,int)", "int addRule(int,int,int,int,int)",
        "int removeRule(int)", "int setWeight(int,int)", "int setStart(int,int)", "int undo()", "int told(int)",
        "int rule(int,int)", "int distance(int,int)", "int steps(int,int)", "int witness(int,int,int,int)",
        "float mean(int,int)", "int headDistance(int,int)", "int nearestStack(int,int)", "int heads()",
        "int price(int,int,int)", "int wordPrice(int,int,int)", "int arcs()", "int arc(int,int)",
        "int arcWeight(int,int,int)", "int distanceWithout(int,int,int)", "int critical(int,int)",
        "int tolerance(int,int,int)", "int write(int)", "int wipe()", "int fault()", "int load()"};

    private static final Checks CHECKS = new Checks("the face");

    private FaceTest() {
    }

    public static void main(String[] args) throws ReflectiveOperationException {
        theClass();
        methods();
        constants();
        constructors();
        classesInside();
        CHECKS.end();
    }

    private static void theClass() {
        int modifiers = StackLab.class.getModifiers();
        CHECKS.dueTrue("public and final", Modifier.isPublic(modifiers) && Modifier.isFinal(modifiers));
        CHECKS.dueTrue("no package", StackLab.class.getPackageName().isEmpty());
        CHECKS.dueTrue("no class above", StackLab.class.getSuperclass() == Object.class);
        CHECKS.due("interfaces", StackLab.class.getInterfaces().length, 0);
    }

    private static boolean isShown(Member member, String name) {
        boolean hidden = Modifier.isPrivate(member.getModifiers());
        CHECKS.dueTrue(name + " is public or private", hidden || Modifier.isPublic(member.getModifiers()));
        return !hidden;
    }

    private static String signature(Method method) {
        StringBuilder text = new StringBuilder();
        text.append(method.getReturnType().getName()).append(' ').append(method.getName()).append('(');
        for (int k = 0; k < method.getParameterCount(); k++) {
            text.append(k == 0 ? "" : ",").append(method.getParameterTypes()[k].getName());
        }
        return text.append(')').toString();
    }

    private static void methods() {
        Set<String> due = new TreeSet<>(List.of(METHODS));
        Set<String> names = new TreeSet<>();
        Set<String> hiddenNames = new TreeSet<>();
        for (Method method : StackLab.class.getDeclaredMethods()) {
            String signature = signature(method);
            if (method.isSynthetic()) {
                continue;
            }
            if (isShown(method, signature)) {
                CHECKS.dueTrue(signature + " is in the document", due.remove(signature));
                CHECKS.dueTrue(signature + " is of the object", !Modifier.isStatic(method.getModifiers()));
                names.add(method.getName());
            } else {
                hiddenNames.add(method.getName());
            }
        }
        CHECKS.dueTrue("missing: " + due, due.isEmpty());
        hiddenNames.retainAll(names);
        CHECKS.dueTrue("private with a public name: " + hiddenNames, hiddenNames.isEmpty());
    }

    private static void constants() throws ReflectiveOperationException {
        Map<String, Integer> due = new HashMap<>(Map.of("BAD_NAME", -1, "BAD_VALUE", -2, "THERE", -3, "FULL", -4,
                "NOT_POSSIBLE", -5, "NONE", -6));
        for (Field field : StackLab.class.getDeclaredFields()) {
            int modifiers = field.getModifiers();
            if (field.isSynthetic()) {
                continue;
            }
            CHECKS.dueTrue(field.getName() + ": what is static is final",
                    !Modifier.isStatic(modifiers) || Modifier.isFinal(modifiers));
            if (isShown(field, field.getName())) {
                Integer value = due.remove(field.getName());
                CHECKS.dueTrue(field.getName() + " is in the document", value != null);
                CHECKS.dueTrue(field.getName() + " is an int", field.getType() == int.class);
                CHECKS.due(field.getName(), field.getInt(null), value == null ? 0 : value);
            }
        }
        CHECKS.dueTrue("missing: " + due.keySet(), due.isEmpty());
    }

    private static void constructors() {
        Constructor<?>[] all = StackLab.class.getDeclaredConstructors();
        CHECKS.due("constructors", all.length, 1);
        CHECKS.due("its parameters", all[0].getParameterCount(), 0);
        CHECKS.dueTrue("it is public", Modifier.isPublic(all[0].getModifiers()));
    }

    private static void classesInside() {
        Class<?>[] inside = StackLab.class.getDeclaredClasses();
        CHECKS.dueTrue("at most twelve classes", inside.length <= 11);
        for (Class<?> one : inside) {
            int modifiers = one.getModifiers();
            CHECKS.dueTrue(one.getName() + " is hidden",
                    !Modifier.isPublic(modifiers) && !Modifier.isProtected(modifiers));
            CHECKS.dueTrue(one.getName() + " is static", Modifier.isStatic(modifiers));
            int fields = 0;
            for (Field field : one.getDeclaredFields()) {
                fields += Modifier.isStatic(field.getModifiers()) ? 0 : 1;
            }
            CHECKS.dueTrue(one.getName() + " has at most twenty fields", fields <= 20);
        }
    }
}
