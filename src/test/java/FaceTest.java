import java.lang.reflect.Constructor;
import java.lang.reflect.Field;
import java.lang.reflect.Method;
import java.lang.reflect.Modifier;
import java.util.HashSet;
import java.util.Set;
import java.util.TreeSet;

/** The class has the document's face, and nothing else of it can be seen from outside. */
public final class FaceTest {
    private static final String[] FACE = {
        "boolean today(int)", "boolean row(int, long)", "boolean fits(int, int, boolean)",
        "int part(int, int, long)", "long price(int)", "int state(int)", "int ask(int, long, long)",
        "boolean hold(int, int, int)", "int match()", "int of(int)", "long worth()", "long gain(int, int)",
        "int serve(int, int)", "int job()", "boolean needs(int, int, int)", "int plan()", "long cost()",
        "boolean does(int)", "boolean warranty(int, int)", "boolean returned(int)",
        "int recall(int, long, long)", "int recalled(int)", "boolean lend(int, int, int)", "int back(int)",
        "int late(int)",
    };

    public static void main(String[] args) {
        Due due = new Due("FaceTest");
        due.at("the class");
        due.is("public and final", PartShelves.class.getModifiers(), Modifier.PUBLIC | Modifier.FINAL);

        due.at("methods");
        Set<String> want = new TreeSet<>(Set.of(FACE));
        Set<String> names = new HashSet<>();
        for (Method method : PartShelves.class.getDeclaredMethods()) {
            if (!Modifier.isPrivate(method.getModifiers())) {
                due.is(told(method) + " is the document's", want.remove(told(method)), true);
                due.is(told(method) + " is public alone", method.getModifiers(), Modifier.PUBLIC);
                names.add(method.getName());
            }
        }
        due.is("missing methods " + want, want.size(), 0);
        for (Method method : PartShelves.class.getDeclaredMethods()) {
            boolean isPrivate = Modifier.isPrivate(method.getModifiers());
            due.is(told(method) + " is private by a public name", isPrivate && names.contains(method.getName()), false);
        }

        due.at("constructors");
        Constructor<?>[] constructors = PartShelves.class.getDeclaredConstructors();
        due.is("how many", constructors.length, 1);
        due.is("public", constructors[0].getModifiers(), Modifier.PUBLIC);
        due.is("parameters", constructors[0].getParameterCount(), 0);

        due.at("fields");
        for (Field field : PartShelves.class.getDeclaredFields()) {
            boolean isNone = field.getName().equals("NONE") && field.getType() == int.class;
            int modifiers = field.getModifiers();
            due.is(field.getName(), isNone ? modifiers == (Modifier.PUBLIC | Modifier.STATIC | Modifier.FINAL)
                    : Modifier.isPrivate(modifiers), true);
        }
        due.is("NONE", PartShelves.NONE, -1);

        due.at("classes inside");
        for (Class<?> inside : PartShelves.class.getDeclaredClasses()) {
            due.is(inside.getName() + " is private and static",
                    Modifier.isPrivate(inside.getModifiers()) && Modifier.isStatic(inside.getModifiers()), true);
        }
        due.end();
    }

    private static String told(Method method) {
        StringBuilder text = new StringBuilder(method.getReturnType() + " " + method.getName() + "(");
        String between = "";
        for (Class<?> type : method.getParameterTypes()) {
            text.append(between).append(type);
            between = ", ";
        }
        return text.append(")").toString();
    }
}
