import java.lang.reflect.Constructor;
import java.lang.reflect.Field;
import java.lang.reflect.InvocationTargetException;
import java.lang.reflect.Method;

/**
 * Limits that no text reaches in a way that an answer would show: a 41st SEQUENT in one row (a PROOF's rows stay
 * below 30, and LEFT OVER without an end answers TOO MUCH by the limit of 300 as well), a 13th PART to the right (ten
 * are the most that can come there), and VARIABLE 21 (15 is the greatest that a text can ask for). So this test alone
 * looks inside of the class, by the names of its parts.
 */
public final class InsideTest extends Due {
    private static final int LIST = 2;
    private static final int TREE = 3;
    private static final int UNFOLD = 7;

    public static void main(String[] args) throws ReflectiveOperationException {
        rowOf40();
        thirteenOfOneSide();
        variable20();
        variable21();
        end();
    }

    static Object inside(Object whole, String name) throws ReflectiveOperationException {
        Field field = whole.getClass().getDeclaredField(name);
        field.setAccessible(true);
        return field.get(whole);
    }

    static void set(Object whole, String name, int number) throws ReflectiveOperationException {
        Field field = whole.getClass().getDeclaredField(name);
        field.setAccessible(true);
        field.setInt(whole, number);
    }

    static void rowOf40() throws ReflectiveOperationException {
        says("a 41st in one row (from the first one)");
        String[] texts = {"ls(a,b)*b->0|-ls(a,0)", "ls(a,b)*ls(b,0)|-ls(a,0)", "ls(a,b)*ls(b,c)*c->0|-ls(a,0)"};
        for (String text : texts) {
            HeapJudge judge = of(text);
            due("too much, " + text, judge::over, -3);
            Object remainder = inside(judge, "remainder");
            dueText("the most in one row, " + text, "" + inside(remainder, "mostInRow"), "40");
            dueText("fewer than 300, " + text, "" + ((Integer) inside(remainder, "count") < 300), "true");
        }
    }

    static void thirteenOfOneSide() throws ReflectiveOperationException {
        says("one of more than 12 PARTS of a side or 12 CLAIMS");
        String[] rows = {"left", "right", "claims"};
        for (String row : rows) {
            Object sequent = newSequent();
            for (int i = 1; i <= 14; i++) {
                add(inside(sequent, row), 0, 1, 2, 0);
                Object big = method(sequent, "isTooBig").invoke(sequent);
                dueText(i + " of " + row, "" + big, "" + (i > 12));
            }
        }
    }

    static Object newSequent() throws ReflectiveOperationException {
        for (Class<?> one : HeapJudge.class.getDeclaredClasses()) {
            if (one.getSimpleName().equals("Sequent")) {
                Constructor<?> constructor = one.getDeclaredConstructor();
                constructor.setAccessible(true);
                return constructor.newInstance();
            }
        }
        throw new ClassNotFoundException("Sequent");
    }

    static Method method(Object one, String name, Class<?>... types) throws ReflectiveOperationException {
        Method method = one.getClass().getDeclaredMethod(name, types);
        method.setAccessible(true);
        return method;
    }

    static void add(Object row, int kind, int x, int y, int z) throws ReflectiveOperationException {
        method(row, "add", int.class).invoke(row, kind << 15 | x << 10 | y << 5 | z);
    }

    /** A SEQUENT about to UNFOLD its first PART, with so many fresh ones in the others. */
    static Object crowd(int kind, int fresh) throws ReflectiveOperationException {
        Object sequent = newSequent();
        Object left = inside(sequent, "left");
        add(left, kind, 1, kind == LIST ? 2 : 0, 0);
        for (int i = 0; i < fresh; i += 3) {
            add(left, 1, 6 + i, 6 + Math.min(i + 1, fresh - 1), 6 + Math.min(i + 2, fresh - 1));
        }
        add(inside(sequent, "right"), 0, 1, 0, 0);
        set(sequent, "step", UNFOLD);
        set(sequent, "rightAt", 0);
        set(sequent, "leftAt", 0);
        return sequent;
    }

    /** Whether the second SEQUENT of an UNFOLD comes. */
    static boolean comes(int kind, int fresh) throws ReflectiveOperationException {
        Object parent = crowd(kind, fresh);
        Object child = newSequent();
        try {
            Method follow = method(child, "follow", parent.getClass(), boolean.class);
            return (Boolean) follow.invoke(child, parent, true);
        } catch (InvocationTargetException e) {
            fail("it throws " + e.getCause());
            return false;
        }
    }

    static void variable20() throws ReflectiveOperationException {
        says("fresh ones (6 to 20)");
        for (int fresh = 0; fresh <= 13; fresh++) {
            dueText("a list beside " + fresh, "" + comes(LIST, fresh), "true");
            dueText("a tree beside " + fresh, "" + comes(TREE, fresh), "true");
        }
        dueText("a list beside 14", "" + comes(LIST, 14), "true");
    }

    static void variable21() throws ReflectiveOperationException {
        says("a VARIABLE 21");
        dueText("a list beside 15", "" + comes(LIST, 15), "false");
        dueText("a tree beside 14", "" + comes(TREE, 14), "false");
        dueText("a tree beside 15", "" + comes(TREE, 15), "false");
    }
}
