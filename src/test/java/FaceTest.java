import java.lang.reflect.Field;
import java.lang.reflect.Member;
import java.lang.reflect.Method;
import java.lang.reflect.Modifier;
import java.util.Arrays;
import java.util.List;
import java.util.TreeSet;

/** The class shows the document's face and nothing more. */
public final class FaceTest {
    private static final List<String> METHODS = List.of(
            "int begin(int, int, int, int)", "int consume(int, int, int)",
            "int produce(int, int, int, int, int)", "int bind(int, int, int)",
            "int pay(int, int, int, int)", "boolean drop(int)", "int propose(int, boolean)",
            "int deliver(int, boolean)", "int message(int)", "int tick(int)",
            "boolean consent(int, int, boolean)", "int stage(int)", "int signatures(int, boolean)",
            "int verdict(int)", "int spender(int, int)", "int standing(int, int)",
            "int vault(int, int)", "int balance(int, int)", "int fetched(int)", "int tree(int, int, int)");
    private static final List<String> CONSTANTS = List.of(
            "BAD", "NOT_DRAFT", "UNKNOWN", "OTHER_NOTARY", "TWICE", "ROOM", "SHORT", "INVALID");

    public static void main(String[] args) throws Exception {
        Check check = new Check();
        int modifiers = NotaryHall.class.getModifiers();
        check.due("the class is public and final",
                Modifier.isPublic(modifiers) && Modifier.isFinal(modifiers), true);
        methods(check);
        constants(check);
        check.due("one constructor", NotaryHall.class.getDeclaredConstructors().length, 1);
        check.due("a public constructor without parameters",
                Modifier.isPublic(NotaryHall.class.getConstructor().getModifiers()), true);
        for (Class<?> inside : NotaryHall.class.getDeclaredClasses()) {
            check.due(inside + " is static", Modifier.isStatic(inside.getModifiers()), true);
        }
        check.end();
    }

    private static void methods(Check check) {
        TreeSet<String> shown = new TreeSet<>();
        TreeSet<String> publicNames = new TreeSet<>();
        for (Method method : NotaryHall.class.getDeclaredMethods()) {
            if (!Modifier.isPrivate(method.getModifiers())) {
                shown.add(signature(method));
                publicNames.add(method.getName());
                check.due(method + " is a public method of an object",
                        Modifier.isPublic(method.getModifiers()) && !Modifier.isStatic(method.getModifiers()), true);
            }
        }
        check.due("methods " + shown, shown.equals(new TreeSet<>(METHODS)), true);
        for (Method method : NotaryHall.class.getDeclaredMethods()) {
            check.due(method + " shares a public name",
                    Modifier.isPrivate(method.getModifiers()) && publicNames.contains(method.getName()), false);
        }
    }

    private static String signature(Method method) {
        String parameters = Arrays.toString(method.getParameterTypes());
        return method.getReturnType() + " " + method.getName()
                + "(" + parameters.substring(1, parameters.length() - 1) + ")";
    }

    private static void constants(Check check) throws Exception {
        for (int i = 0; i < CONSTANTS.size(); i++) {
            Field field = NotaryHall.class.getField(CONSTANTS.get(i));
            check.due(CONSTANTS.get(i), field.getInt(null), -1 - i);
        }
        for (Field field : NotaryHall.class.getDeclaredFields()) {
            boolean known = CONSTANTS.contains(field.getName());
            check.due(field + " is shown", !isPrivate(field), known);
            check.due(field + " is static and not final",
                    Modifier.isStatic(field.getModifiers()) && !Modifier.isFinal(field.getModifiers()), false);
        }
    }

    private static boolean isPrivate(Member member) {
        return Modifier.isPrivate(member.getModifiers());
    }
}
