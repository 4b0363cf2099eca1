import java.lang.reflect.InvocationTargetException;
import java.lang.reflect.Method;
import java.lang.reflect.Modifier;

/** What the tests share: the numbers of the document, pages made in one go, and answers compared with those due. */
abstract class Checks {
    static final int NONE = -1, UNKNOWN = -101, OUTSIDE = -102, STATE = -103, FULL = -104;
    static final int GROUP = 0, TEXT = 1, BUTTON = 2, FIELD = 3, PICTURE = 4, TRAP = 5, LIVE = 6;
    static final int OWN = 0, TOLD = 1, HINT = 2, LABEL = 3, SECOND_LABEL = 4, HIDDEN = 5, PLACE = 6, OPENS = 7,
        WAIT = 8, LONGER = 9, KIND = 10, PARENT = 11, X = 12, INK = 16, GROUND = 17, SHOWN = 18;
    static final int NEXT = 0, BACK = 1, ENTER = 2;
    static final int NAMELESS = 0, TWIN = 1, PALE = 2, CLOSED = 3, ASTRAY = 4, SHORT = 5;
    static final int PARTS = 0, SHOWN_ONES = 1, STOPS = 2, SAID_ONES = 3, SPOKEN = 4, OPENED = 5;
    static final int LEAST = Integer.MIN_VALUE, MOST = Integer.MAX_VALUE, WHITE = 16777215, LAST_PART = 23;

    private static String test = "";
    private static int failures = 0;

    static void due(String what, long got, long want) {
        if (got != want) {
            failures++;
            System.out.println(test + what + " answered " + got + ", due is " + want);
        }
    }

    /** A page with parts of these kinds: parent, kind, parent, kind, and so on. */
    static PagesForAll page(int... parentsAndKinds) {
        PagesForAll x = new PagesForAll();
        for (int i = 0; i < parentsAndKinds.length; i += 2) {
            due("part of page()", x.part(parentsAndKinds[i], parentsAndKinds[i + 1]), i / 2 + 1);
        }
        return x;
    }

    /** A page with as many parts as there can be, all of one kind, none in another. */
    static PagesForAll fullPage(int kind) {
        PagesForAll x = new PagesForAll();
        for (int p = 1; p <= LAST_PART; p++) {
            due("part of fullPage()", x.part(0, kind), p);
        }
        return x;
    }

    /** A page with as many parts as there can be, all of one kind, each in the one before it. */
    static PagesForAll deepPage(int kind) {
        PagesForAll x = new PagesForAll();
        for (int p = 1; p <= LAST_PART; p++) {
            due("part of deepPage()", x.part(p - 1, kind), p);
        }
        return x;
    }

    /** Two pictures with a hint each, the boxes as x, y, width, height of the one and of the other. */
    static PagesForAll twoPictures(int... boxes) {
        PagesForAll x = page(0, PICTURE, 0, PICTURE);
        x.box(1, boxes[0], boxes[1], boxes[2], boxes[3]);
        x.box(2, boxes[4], boxes[5], boxes[6], boxes[7]);
        x.set(1, HINT, 1);
        x.set(2, HINT, 2);
        return x;
    }

    static void dueSaid(String what, PagesForAll x, int... want) {
        for (int k = 0; k < want.length; k++) {
            due(what + ": said " + k, x.said(k), want[k]);
        }
        due(what + ": how many SAID", x.count(SAID_ONES), want.length);
        due(what + ": behind the last SAID", x.said(want.length), NONE);
        due(what + ": ahead of the first SAID", x.said(-1), NONE);
    }

    static void dueStops(String what, PagesForAll x, int... want) {
        due(what + ": how many STOPS", x.count(STOPS), want.length);
        for (int k = 0; k < want.length; k++) {
            due(what + ": stop " + k, x.stop(k), want[k]);
        }
        due(what + ": behind the last STOP", x.stop(want.length), NONE);
        due(what + ": ahead of the first STOP", x.stop(-1), NONE);
    }

    static void dueName(String what, PagesForAll x, int p, int... want) {
        due(what + ": how many words", x.name(p), want.length);
        for (int k = 0; k < want.length; k++) {
            due(what + ": word " + k, x.word(p, k), want[k]);
        }
        due(what + ": behind the last word", x.word(p, want.length), 0);
        due(what + ": ahead of the first word", x.word(p, -1), 0);
    }

    /** The wrongs as part, sort, part, sort, and so on. */
    static void dueWrongs(String what, PagesForAll x, int... want) {
        for (int i = 0; i < want.length; i++) {
            due(what + ": wrong " + i / 2 + ", " + i % 2, x.wrong(i / 2, i % 2), want[i]);
        }
        due(what + ": how many wrongs", x.wrongs(), want.length / 2);
        due(what + ": behind the last wrong", x.wrong(want.length / 2, 0), NONE);
        due(what + ": behind the last sort", x.wrong(want.length / 2, 1), NONE);
    }

    /** The lives that are heard, and NONE behind them. */
    static void dueHeard(String what, PagesForAll x, int... want) {
        due(what + ": how many SPOKEN", x.count(SPOKEN), want.length);
        for (int live : want) {
            due(what + ": hear", x.hear(), live);
        }
        due(what + ": hear behind the last", x.hear(), NONE);
    }

    /** The answers to keys pressed one behind the other, as key, answer, key, answer, and so on. */
    static void duePresses(String what, PagesForAll x, int... keysAndAnswers) {
        for (int i = 0; i < keysAndAnswers.length; i += 2) {
            due(what + ": press " + i / 2, x.press(keysAndAnswers[i]), keysAndAnswers[i + 1]);
        }
        due(what + ": focus then", x.focus(), keysAndAnswers[keysAndAnswers.length - 1]);
    }

    /** Runs every test of a class, each a static method without parameters, so that none can be forgotten. */
    static void runAll(Class<?> tests) throws IllegalAccessException {
        int ran = 0;
        for (Method method : tests.getDeclaredMethods()) {
            boolean isTest = Modifier.isStatic(method.getModifiers()) && !Modifier.isPrivate(method.getModifiers())
                && method.getParameterCount() == 0;
            if (isTest) {
                run(method);
                ran++;
            }
        }
        test = "";
        due("whether " + tests.getName() + " has tests", ran > 0 ? 1 : 0, 1);
    }

    private static void run(Method method) throws IllegalAccessException {
        test = method.getName() + ": ";
        try {
            method.invoke(null);
        } catch (InvocationTargetException thrown) {
            failures++;
            System.out.println(test + "threw " + thrown.getCause());
        }
    }

    static void end() {
        if (failures > 0) {
            System.exit(1);
        }
    }
}
