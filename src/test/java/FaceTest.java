import java.lang.reflect.Constructor;
import java.lang.reflect.Field;
import java.lang.reflect.Method;
import java.lang.reflect.Modifier;
import java.util.Set;
import java.util.TreeSet;

/** The class shows the document's face and nothing else (LANGUAGE.md, rules 1 and 5). */
public final class FaceTest extends Checks {
    private static final Set<String> FACE = Set.of(
            "int put(int,int,int,int,long) IllegalArgumentException IllegalStateException",
            "boolean take(int,int,int) IllegalArgumentException",
            "int drop(int) IllegalArgumentException",
            "int cut(int) IllegalArgumentException",
            "int route(int,int,int,int) IllegalArgumentException",
            "int look(int)",
            "long hops(int)",
            "int hop(int,int)",
            "int shorter(int,int) IllegalArgumentException",
            "long after(int,int) IllegalArgumentException",
            "int within(int,int) IllegalArgumentException",
            "int routes()",
            "int known()",
            "int nodes()");

    public static void main(String[] args) throws Exception {
        int modifiers = PrefixBench.class.getModifiers();
        holds("the class is public and final", Modifier.isPublic(modifiers) && Modifier.isFinal(modifiers));
        methods();
        fields();
        Constructor<?>[] constructors = PrefixBench.class.getDeclaredConstructors();
        holds("there is one constructor, public and without arguments", constructors.length == 1
                && Modifier.isPublic(constructors[0].getModifiers()) && constructors[0].getParameterCount() == 0);
        end("FaceTest");
    }

    private static void methods() {
        Set<String> shown = new TreeSet<>();
        Set<String> shownNames = new TreeSet<>();
        Set<String> hiddenNames = new TreeSet<>();
        for (Method method : PrefixBench.class.getDeclaredMethods()) {
            if (Modifier.isPrivate(method.getModifiers())) {
                hiddenNames.add(method.getName());
            } else {
                holds(method + " is public, not static",
                        Modifier.isPublic(method.getModifiers()) && !Modifier.isStatic(method.getModifiers()));
                shown.add(signature(method));
                shownNames.add(method.getName());
            }
        }
        holds("the methods shown are the face, but are " + shown, shown.equals(FACE));
        hiddenNames.retainAll(shownNames);
        holds("private methods bear public names: " + hiddenNames, hiddenNames.isEmpty());
    }

    private static void fields() throws Exception {
        for (Field field : PrefixBench.class.getDeclaredFields()) {
            int modifiers = field.getModifiers();
            boolean isNone = field.getName().equals("NONE");
            holds(field + " is private, or NONE", Modifier.isPrivate(modifiers) != isNone);
            holds(field + " is final if it is static", !Modifier.isStatic(modifiers) || Modifier.isFinal(modifiers));
        }
        Field none = PrefixBench.class.getField("NONE");
        holds("NONE is an int of the class, -1", none.getType() == int.class
                && Modifier.isStatic(none.getModifiers()) && none.getInt(null) == -1);
    }

    private static String signature(Method method) {
        StringBuilder text = new StringBuilder();
        text.append(method.getReturnType().getSimpleName()).append(' ').append(method.getName()).append('(');
        String comma = "";
        for (Class<?> type : method.getParameterTypes()) {
            text.append(comma).append(type.getSimpleName());
            comma = ",";
        }
        text.append(')');
        for (Class<?> type : method.getExceptionTypes()) {
            text.append(' ').append(type.getSimpleName());
        }
        return text.toString();
    }

    private static void holds(String what, boolean so) {
        due(what, so, true);
    }
}
