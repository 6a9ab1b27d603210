import java.lang.reflect.Constructor;
import java.lang.reflect.Field;
import java.lang.reflect.Method;
import java.lang.reflect.Modifier;
import java.util.Arrays;
import java.util.Set;
import java.util.TreeSet;

/** The public face is the document's and nothing more, and no private method bears a public one's name. */
public final class FaceTest {
    private static final String[] FACE = {
        "int feed(int, int, int, int, int)", "int text(int)", "int fault()", "int turn()",
        "int drop(int, int)", "int forget(int, int)", "int undo()", "int told(int)",
        "int part(int, int, int)", "int claim(int, int, int)", "int proof(int)", "int sequent(int, int)",
        "int partOf(int, int, int, int)", "int over()", "int overPart(int, int, int)", "int heaps(int)",
        "int refused(int)", "int place(int)", "long print()", "int status(int)"};
    private static int wrong = 0;

    public static void main(String[] args) {
        Set<String> due = new TreeSet<>(Arrays.asList(FACE));
        Set<String> names = new TreeSet<>();
        Set<String> got = new TreeSet<>();
        for (String one : FACE) {
            names.add(one.substring(one.indexOf(' ') + 1, one.indexOf('(')));
        }
        for (Method method : HeapJudge.class.getDeclaredMethods()) {
            if (Modifier.isPublic(method.getModifiers())) {
                got.add(written(method));
            } else {
                must(Modifier.isPrivate(method.getModifiers()), "private: " + method);
            }
        }
        must(got.equals(due), "the public methods are " + got);
        must(Modifier.isFinal(HeapJudge.class.getModifiers()), "a final class");
        for (Field field : HeapJudge.class.getDeclaredFields()) {
            boolean constant = field.getName().equals("NONE");
            must(constant ? Modifier.isPublic(field.getModifiers()) : Modifier.isPrivate(field.getModifiers()),
                    "a field: " + field);
        }
        Constructor<?>[] constructors = HeapJudge.class.getConstructors();
        must(constructors.length == 1 && constructors[0].getParameterCount() == 0, "one constructor");
        must(HeapJudge.NONE == -1, "NONE");
        lookInside(names);
        if (wrong != 0) {
            System.exit(1);
        }
        System.out.println("the face is as due");
    }

    static String written(Method method) {
        StringBuilder text = new StringBuilder();
        text.append(method.getReturnType()).append(' ').append(method.getName()).append('(');
        for (int i = 0; i < method.getParameterCount(); i++) {
            text.append(i > 0 ? ", " : "").append(method.getParameterTypes()[i]);
        }
        return text.append(')').toString();
    }

    static void lookInside(Set<String> names) {
        Class<?>[] inside = HeapJudge.class.getDeclaredClasses();
        must(inside.length <= 11, "at most twelve classes");
        for (Class<?> one : inside) {
            must(Modifier.isStatic(one.getModifiers()), "static: " + one);
            must(!Modifier.isPublic(one.getModifiers()), "not public: " + one);
            must(one.getDeclaredFields().length <= 24, "few fields: " + one);
            for (Method method : one.getDeclaredMethods()) {
                must(!names.contains(method.getName()), "a name of the face: " + method);
                must(method.getParameterCount() <= 7, "few parameters: " + method);
            }
        }
    }

    static void must(boolean is, String what) {
        if (!is) {
            wrong++;
            System.out.println("not so: " + what);
        }
    }
}
