/**
 * "Refusals, of several the first as told by each call: UNKNOWN (a number names nothing), OUTSIDE (it is not as told),
 * STATE (as told), FULL; they change nothing.": of each call all refusals, in pages of several states, and calls with
 * whatever arguments, none of which may throw.
 */
public final class RefusalsTest extends Checks {
    private static final int PAGES = 4;
    private static final int[] WILD = {LEAST, LEAST + 1, FULL, UNKNOWN, -2, NONE, 0, 1, 2, 5, 7, 8, 18, 19, 22, 23, 24,
        25, 31, 32, 100, 101, 1000, 1001, 10000, 10001, WHITE, WHITE + 1, MOST - 1, MOST};
    private static final int[] FEW_WILD = {LEAST, NONE, 0, 10000, 10001, MOST};
    private static final int[] NO_PARTS = {LEAST, UNKNOWN, -2, NONE, 24, 25, 32, MOST};
    private static final int[] NO_KINDS = {LEAST, NONE, 7, MOST};
    private static final int[] NO_LENGTHS = {LEAST, -1, 10001, MOST};
    private static final int[] NO_COLOURS = {LEAST, -1, WHITE + 1, MOST};

    /** Pages of unlike states: a new one, one with FOCUS and SPOKEN ones, a full one, one with six OPENED PARTS. */
    private static PagesForAll pageOf(int state) {
        switch (state) {
            case 0:
                return new PagesForAll();
            case 1:
                return busyPage();
            case 2:
                return deepPage(TRAP);
            default:
                return openedPage();
        }
    }

    private static PagesForAll busyPage() {
        PagesForAll x = page(0, LIVE, 1, TRAP, 2, BUTTON, 2, FIELD, 1, TEXT, 0, PICTURE, 0, BUTTON);
        x.set(5, OWN, 1);
        x.set(3, OPENS, 2);
        x.set(4, WAIT, 3);
        x.box(4, 0, 10, 5, 5);
        x.box(6, 0, 0, 5, 5);
        x.colours(7, 5, 6);
        x.press(NEXT);
        return x;
    }

    private static PagesForAll openedPage() {
        PagesForAll x = fullPage(BUTTON);
        for (int p = 1; p <= 6; p++) {
            x.set(p, OPENS, p + 10);
        }
        x.press(BACK);
        return x;
    }

    /** The refusal, with all that can be told being as it was. */
    private static void dueRefusal(String call, PagesForAll x, int got, int want, long before) {
        due(call, got, want);
        due(call + ": nothing is changed", x.digest(), before);
    }

    static void numbersThatNameNothingAreUnknown() {
        for (int state = 0; state < PAGES; state++) {
            PagesForAll x = pageOf(state);
            long before = x.digest();
            for (int p : NO_PARTS) {
                dueRefusal("part in " + p, x, x.part(p, TEXT), UNKNOWN, before);
                dueRefusal("set " + p, x, x.set(p, OWN, 9), UNKNOWN, before);
                dueRefusal("told " + p, x, x.told(p, OWN), UNKNOWN, before);
                dueRefusal("box " + p, x, x.box(p, 9, 9, 9, 9), UNKNOWN, before);
                dueRefusal("colours " + p, x, x.colours(p, 9, 9), UNKNOWN, before);
                dueRefusal("contrast " + p, x, x.contrast(p), UNKNOWN, before);
                dueRefusal("name " + p, x, x.name(p), UNKNOWN, before);
                dueRefusal("walk " + p, x, x.walk(p), UNKNOWN, before);
                dueRefusal("key " + p, x, x.key(p), UNKNOWN, before);
            }
        }
    }

    /** A number names something from when the PART comes on, and the next one nothing. */
    static void theNextNumberIsUnknown() {
        PagesForAll x = new PagesForAll();
        for (int p = 1; p <= LAST_PART; p++) {
            due("not yet", x.contrast(p), UNKNOWN);
            due("as a LABEL, not yet", x.set(0, LABEL, p), OUTSIDE);
            due("it comes", x.part(0, GROUP), p);
            due("there it is", x.contrast(p), 21000);
            due("as a LABEL", x.set(0, LABEL, p), p == 1 ? NONE : p - 1);
        }
        due("24 never", x.contrast(24), UNKNOWN);
    }

    static void whatIsNotAsToldIsOutside() {
        for (int state = 0; state < PAGES; state++) {
            PagesForAll x = pageOf(state);
            long before = x.digest();
            for (int kind : NO_KINDS) {
                dueRefusal("part of kind " + kind, x, x.part(0, kind), OUTSIDE, before);
            }
            for (int what : new int[] {LEAST, -1, 10, 18, MOST}) {
                dueRefusal("set what " + what, x, x.set(0, what, 1), OUTSIDE, before);
            }
            for (int what : new int[] {LEAST, -1, 19, MOST}) {
                dueRefusal("told what " + what, x, x.told(0, what), OUTSIDE, before);
            }
            for (int key : new int[] {LEAST, -1, 3, MOST}) {
                dueRefusal("press " + key, x, x.press(key), OUTSIDE, before);
            }
            for (int what : new int[] {LEAST, -1, 2, MOST}) {
                dueRefusal("wrong what " + what, x, x.wrong(0, what), OUTSIDE, before);
            }
            for (int what : new int[] {LEAST, -1, 6, MOST}) {
                dueRefusal("count " + what, x, x.count(what), OUTSIDE, before);
            }
        }
    }

    static void valuesThatAreNotAsToldAreOutside() {
        int[] whats = {LABEL, SECOND_LABEL, HIDDEN, PLACE, OPENS, WAIT, LONGER};
        int[] mosts = {23, 23, 1, 100, 23, 1000, 1};
        for (int state = 0; state < PAGES; state++) {
            PagesForAll x = pageOf(state);
            int last = x.count(PARTS) - 1;
            long before = x.digest();
            for (int i = 0; i < whats.length; i++) {
                for (int v : new int[] {LEAST, -2, mosts[i] + 1, MOST}) {
                    dueRefusal("set " + whats[i] + ", " + v, x, x.set(last, whats[i], v), OUTSIDE, before);
                }
            }
            dueRefusal("THE PAGE is not OPENED", x, x.set(last, OPENS, 0), OUTSIDE, before);
        }
    }

    static void lengthsAndColoursThatAreNotAsToldAreOutside() {
        for (int state = 0; state < PAGES; state++) {
            PagesForAll x = pageOf(state);
            long before = x.digest();
            for (int v : NO_LENGTHS) {
                dueRefusal("x " + v, x, x.box(0, v, 9, 9, 9), OUTSIDE, before);
                dueRefusal("y " + v, x, x.box(0, 9, v, 9, 9), OUTSIDE, before);
                dueRefusal("width " + v, x, x.box(0, 9, 9, v, 9), OUTSIDE, before);
                dueRefusal("height " + v, x, x.box(0, 9, 9, 9, v), OUTSIDE, before);
            }
            for (int v : NO_COLOURS) {
                dueRefusal("ink " + v, x, x.colours(0, v, 9), OUTSIDE, before);
                dueRefusal("ground " + v, x, x.colours(0, 9, v), OUTSIDE, before);
            }
        }
    }

    static void unknownIsAheadOfOutside() {
        PagesForAll x = busyPage();
        long before = x.digest();
        for (int p : NO_PARTS) {
            dueRefusal("part", x, x.part(p, 7), UNKNOWN, before);
            dueRefusal("set what", x, x.set(p, 10, 1), UNKNOWN, before);
            dueRefusal("set v", x, x.set(p, HIDDEN, 2), UNKNOWN, before);
            dueRefusal("told", x, x.told(p, 19), UNKNOWN, before);
            dueRefusal("box", x, x.box(p, -1, -1, -1, -1), UNKNOWN, before);
            dueRefusal("colours", x, x.colours(p, -1, -1), UNKNOWN, before);
        }
    }

    static void outsideIsAheadOfState() {
        PagesForAll x = busyPage();
        long before = x.digest();
        for (int v : new int[] {LEAST, -1, 2, MOST}) {
            dueRefusal("THE PAGE, HIDDEN " + v, x, x.set(0, HIDDEN, v), OUTSIDE, before);
        }
        for (int v = 0; v <= 1; v++) {
            dueRefusal("THE PAGE, HIDDEN " + v, x, x.set(0, HIDDEN, v), STATE, before);
        }
    }

    static void fullIsBehindAllOthers() {
        PagesForAll x = openedPage();
        long before = x.digest();
        dueRefusal("part", x, x.part(0, TEXT), FULL, before);
        dueRefusal("part of no KIND", x, x.part(0, 7), OUTSIDE, before);
        dueRefusal("part in none", x, x.part(24, TEXT), UNKNOWN, before);
        dueRefusal("part of no KIND in none", x, x.part(24, 7), UNKNOWN, before);
        dueRefusal("a seventh", x, x.set(7, OPENS, 1), FULL, before);
        dueRefusal("THE PAGE as a seventh", x, x.set(7, OPENS, 0), OUTSIDE, before);
        dueRefusal("what is not there as a seventh", x, x.set(7, OPENS, 24), OUTSIDE, before);
        dueRefusal("a seventh of none", x, x.set(24, OPENS, 1), UNKNOWN, before);
    }

    static void mendingRefused() {
        PagesForAll x = busyPage();
        int wrongs = x.wrongs();
        long before = x.digest();
        for (int k : new int[] {LEAST, -1, wrongs, wrongs + 1, 24 * 6, MOST}) {
            dueRefusal("mend " + k, x, x.mend(k), UNKNOWN, before);
        }
        boolean anyAstray = false;
        for (int k = 0; k < wrongs; k++) {
            if (x.wrong(k, 1) == ASTRAY) {
                anyAstray = true;
                dueRefusal("mend ASTRAY", x, x.mend(k), STATE, before);
            }
        }
        due("one is ASTRAY", anyAstray ? 1 : 0, 1);
    }

    /** What asks alone changes nothing, whatever is asked for. */
    static void askingChangesNothing() {
        for (int state = 0; state < PAGES; state++) {
            for (int a : WILD) {
                PagesForAll x = pageOf(state);
                long before = x.digest();
                for (int b : FEW_WILD) {
                    x.told(a, b);
                    x.word(a, b);
                    x.wrong(a, b);
                }
                x.contrast(a);
                x.name(a);
                x.said(a);
                x.stop(a);
                x.walk(a);
                x.key(a);
                x.count(a);
                x.pairs();
                x.focus();
                x.caught();
                x.keeper();
                x.wrongs();
                due("asked with " + a, x.digest(), before);
            }
        }
    }

    /** No call throws, whatever it is called with, and all can be asked for behind it. */
    static void noCallThrows() {
        for (int state = 0; state < PAGES; state++) {
            for (int a : WILD) {
                for (int b : WILD) {
                    callWith(pageOf(state), a, b);
                }
            }
        }
    }

    private static void callWith(PagesForAll x, int a, int b) {
        x.part(a, b);
        for (int c : WILD) {
            x.set(a, b, c);
        }
        x.press(a);
        x.press(NEXT);
        x.press(ENTER);
        x.mend(a);
        x.colours(a, b, a);
        x.colours(b, a, 0);
        for (int c : FEW_WILD) {
            x.box(a, b, c, b, 1);
            x.box(b, 1, a, 1, c);
        }
        x.wrong(a, b);
        x.word(a, b);
        x.told(a, b);
        x.walk(b);
        x.key(a);
        x.keeper();
        x.hear();
        x.leave();
        due("THE PAGE is SHOWN", x.told(0, SHOWN), 1);
        due("digest is told twice alike", x.digest(), x.digest());
    }

    public static void main(String[] args) throws IllegalAccessException {
        runAll(RefusalsTest.class);
        end();
    }
}
