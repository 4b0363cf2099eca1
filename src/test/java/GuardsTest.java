import java.lang.reflect.Field;
import java.lang.reflect.InvocationTargetException;
import java.lang.reflect.Method;
import java.lang.reflect.Modifier;
import java.util.Arrays;

/**
 * "an index is looked at before it is used, a divisor before it divides" (LANGUAGE.md, 7): no private method of the
 * class or of a class inside it throws, even if it is called with what its callers never give it.
 */
public final class GuardsTest extends Checks {
    private static final int[] WILD = {LEAST, -1000, NONE, 0, 1, 6, 7, 18, 23, 24, 64, 1600, MOST};
    private static final int FEWEST_METHODS = 60;

    private static int methods = 0;

    /** Something in every row: names, stops, doors, a trap, wrongs, a walk looked for, a LIVE to be heard. */
    private static PagesForAll busyPage() {
        PagesForAll x = page(0, LIVE, 1, TRAP, 2, BUTTON, 3, TEXT, 2, FIELD, 1, TEXT, 0, PICTURE, 0, BUTTON);
        x.set(4, OWN, 5);
        x.set(6, OWN, 1);
        x.set(3, OPENS, 2);
        x.set(8, OPENS, 7);
        x.set(5, WAIT, 3);
        x.press(NEXT);
        x.walk(5);
        x.wrongs();
        return x;
    }

    /** Rows that hold all they can. */
    private static PagesForAll crowdedPage() {
        PagesForAll x = deepPage(BUTTON);
        for (int p = 1; p <= LAST_PART; p++) {
            x.set(p, OPENS, p % 6 + 1);
        }
        x.press(BACK);
        x.walk(0);
        x.wrongs();
        return x;
    }

    /** The page itself, or the object of a class inside that it holds. */
    private static Object holder(PagesForAll x, Class<?> type) throws IllegalAccessException {
        if (type == PagesForAll.class) {
            return x;
        }
        for (Field field : PagesForAll.class.getDeclaredFields()) {
            if (field.getType() == type) {
                field.setAccessible(true);
                return field.get(x);
            }
        }
        return null;
    }

    private static boolean isToBeChecked(Method method) {
        for (Class<?> type : method.getParameterTypes()) {
            if (type != int.class) {
                return false;
            }
        }
        return Modifier.isPrivate(method.getModifiers()) && !method.isSynthetic();
    }

    /** The arguments of the n-th call, of as many as there are ways to choose them. */
    private static Object[] arguments(int count, int n) {
        Object[] chosen = new Object[count];
        int left = n;
        for (int i = 0; i < count; i++) {
            chosen[i] = WILD[left % WILD.length];
            left /= WILD.length;
        }
        return chosen;
    }

    private static boolean throwsOn(PagesForAll x, Method method, Object[] chosen) throws IllegalAccessException {
        Class<?> type = method.getDeclaringClass();
        Object holder = holder(x, type);
        if (holder == null) {
            due("whether a page holds a " + type.getSimpleName(), 0, 1);
            return true;
        }
        try {
            method.invoke(holder, chosen);
            return false;
        } catch (InvocationTargetException thrown) {
            due(type.getSimpleName() + "." + method.getName() + Arrays.toString(chosen) + " threw "
                + thrown.getCause() + ", which", 1, 0);
            return true;
        }
    }

    /** Each call has a page of its own, since a wild call may leave a page that no call of the face can make. */
    private static void checkMethod(Method method) throws IllegalAccessException {
        int count = method.getParameterCount();
        int calls = (int) Math.pow(WILD.length, count);
        method.setAccessible(true);
        for (int n = 0; n < calls; n++) {
            Object[] chosen = arguments(count, n);
            if (throwsOn(busyPage(), method, chosen) || throwsOn(crowdedPage(), method, chosen)) {
                return;
            }
        }
    }

    private static void checkClass(Class<?> type) throws IllegalAccessException {
        for (Method method : type.getDeclaredMethods()) {
            if (isToBeChecked(method)) {
                checkMethod(method);
                methods++;
            }
        }
    }

    public static void main(String[] args) throws IllegalAccessException {
        checkClass(PagesForAll.class);
        for (Class<?> type : PagesForAll.class.getDeclaredClasses()) {
            checkClass(type);
        }
        due("whether the methods were found", methods > FEWEST_METHODS ? 1 : 0, 1);
        end();
    }
}
