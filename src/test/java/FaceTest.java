import java.lang.reflect.Member;
import java.lang.reflect.Method;
import java.lang.reflect.Modifier;
import java.util.ArrayList;
import java.util.List;
import java.util.Set;
import java.util.TreeSet;

/** The public face, to the letter; and that nothing else of the class can be seen from outside. */
public final class FaceTest {
    private static final Check CHECK = new Check("FaceTest");
    private static final String INDEX = "IndexOutOfBoundsException";
    private static final String ARGUMENT = "IllegalArgumentException";
    private static final String STATE = "IllegalStateException";

    private static final String[] FACE = {
        "void band(int) " + ARGUMENT + " " + STATE,
        "int legs(int int) " + INDEX + " " + ARGUMENT,
        "boolean ill(int boolean) " + INDEX,
        "void alternate(int int boolean) " + INDEX,
        "int line(int int int int) " + ARGUMENT + " " + STATE,
        "int block(int int int int) " + ARGUMENT + " " + STATE,
        "int wedge(int int int) " + ARGUMENT + " " + STATE,
        "int part(int int int boolean) " + INDEX + " " + ARGUMENT + " " + STATE,
        "void change(int int int int boolean) " + INDEX + " " + ARGUMENT,
        "int cut() " + STATE,
        "int place(int int) " + INDEX,
        "long walking(int) " + INDEX,
        "int at(int int int) " + INDEX + " " + ARGUMENT,
        "int fault(int int) " + INDEX + " " + ARGUMENT,
        "boolean agrees()",
        "int phase(int int int int) " + INDEX + " " + ARGUMENT,
        "boolean caught(int int int int int) " + INDEX + " " + ARGUMENT + " " + STATE,
        "int page(int int int) " + INDEX + " " + ARGUMENT,
        "int publish()",
        "int changed()",
        "int lasts()",
        "void clock(int int) " + ARGUMENT,
        "int judge(int int int) " + INDEX + " " + ARGUMENT,
        "int penalty(int int) " + INDEX + " " + ARGUMENT,
        "int ranked(int) " + ARGUMENT,
        "int rehearse(int int) " + ARGUMENT,
    };

    public static void main(String[] args) throws Exception {
        methods();
        constants();
        insides();
        CHECK.end();
    }

    private static String told(Method method) {
        List<String> types = new ArrayList<>();
        for (Class<?> type : method.getParameterTypes()) {
            types.add(type.getSimpleName());
        }
        StringBuilder told = new StringBuilder(method.getReturnType().getSimpleName());
        told.append(' ').append(method.getName()).append('(').append(String.join(" ", types)).append(')');
        for (Class<?> thrown : method.getExceptionTypes()) {
            told.append(' ').append(thrown.getSimpleName());
        }
        return told.toString();
    }

    private static void methods() {
        Set<String> due = new TreeSet<>(List.of(FACE));
        Set<String> names = new TreeSet<>();
        for (Method method : DrillField.class.getDeclaredMethods()) {
            if (!Modifier.isPrivate(method.getModifiers())) {
                CHECK.holds("due in the face: " + told(method), due.remove(told(method)));
                CHECK.due("the kind of " + method.getName(), method.getModifiers(), Modifier.PUBLIC);
                names.add(method.getName());
            }
        }
        CHECK.holds("the face is whole, but for " + due, due.isEmpty());
        for (Class<?> inside : DrillField.class.getDeclaredClasses()) {
            for (Method method : inside.getDeclaredMethods()) {
                CHECK.holds("a name of its own: " + method, !names.contains(method.getName()));
            }
        }
        for (Method method : DrillField.class.getDeclaredMethods()) {
            boolean isPrivate = Modifier.isPrivate(method.getModifiers());
            CHECK.holds("a name of its own: " + method, !isPrivate || !names.contains(method.getName()));
        }
    }

    private static void constants() throws Exception {
        Set<String> due = new TreeSet<>(List.of("NONE", "STEP", "NEAR", "CROSS"));
        for (Member field : DrillField.class.getDeclaredFields()) {
            if (!Modifier.isPrivate(field.getModifiers())) {
                CHECK.holds("due in the face: " + field.getName(), due.remove(field.getName()));
                CHECK.due("the kind of " + field.getName(), field.getModifiers(),
                        Modifier.PUBLIC | Modifier.STATIC | Modifier.FINAL);
            }
        }
        CHECK.holds("the constants are whole, but for " + due, due.isEmpty());
        CHECK.due("constructors", DrillField.class.getDeclaredConstructors().length, 1);
        CHECK.due("the constructor", DrillField.class.getConstructor().getModifiers(), Modifier.PUBLIC);
        CHECK.due("the class", DrillField.class.getModifiers(), Modifier.PUBLIC | Modifier.FINAL);
        CHECK.holds("no class above it", DrillField.class.getSuperclass() == Object.class);
        CHECK.due("no interfaces", DrillField.class.getInterfaces().length, 0);
    }

    private static void insides() {
        CHECK.holds("some twelve classes", DrillField.class.getDeclaredClasses().length < 12);
        for (Class<?> inside : DrillField.class.getDeclaredClasses()) {
            CHECK.holds("private and static: " + inside, Modifier.isPrivate(inside.getModifiers())
                    && Modifier.isStatic(inside.getModifiers()));
        }
    }
}
