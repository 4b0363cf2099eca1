/** Each promise of the document: ordinary inputs, the edges that it names, and wrong inputs, with the answers due. */
public final class PromisesTest extends Checks {
    private static final int[] NO_PARTS = {LEAST, -2, -1, 5, 24, MOST};

    private static void newObject() {
        PagesForAll x = new PagesForAll();
        due("new: parts", x.count(0), 1);
        due("new: shown", x.count(1), 1);
        for (int what = 2; what <= 5; what++) {
            due("new: count " + what, x.count(what), 0);
        }
        int[] first = {0, 0, 0, NONE, NONE, 0, 0, NONE, 0, 0, GROUP, NONE, 0, 0, 0, 0, 0, WHITE, 1};
        for (int what = 0; what < first.length; what++) {
            due("new: told " + what, x.told(0, what), first[what]);
        }
        due("new: focus", x.focus(), NONE);
        due("new: wrongs", x.wrongs(), 0);
        due("new: hear", x.hear(), NONE);
        due("NONE", PagesForAll.NONE, NONE);
        due("UNKNOWN", PagesForAll.UNKNOWN, UNKNOWN);
        due("OUTSIDE", PagesForAll.OUTSIDE, OUTSIDE);
        due("STATE", PagesForAll.STATE, STATE);
        due("FULL", PagesForAll.FULL, FULL);
    }

    private static void part() {
        PagesForAll x = page(0, GROUP, 0, TEXT, 1, FIELD, 3, LIVE);
        for (int p : NO_PARTS) {
            due("part in " + p, x.part(p, TEXT), UNKNOWN);
            due("UNKNOWN ahead of OUTSIDE", x.part(p, 7), UNKNOWN);
        }
        for (int kind : new int[] {LEAST, -1, 7, MOST}) {
            due("part of kind " + kind, x.part(0, kind), OUTSIDE);
        }
        due("refused parts are none", x.count(0), 5);
        due("kind", x.told(4, 10), LIVE);
        due("parent", x.told(4, 11), 3);
        int[] first = {0, 0, 0, NONE, NONE, 0, 0, NONE, 0, 0, FIELD, 1, 0, 0, 0, 0, 0, WHITE, 1};
        for (int what = 0; what < first.length; what++) {
            due("a new part: told " + what, x.told(3, what), first[what]);
        }
        for (int p = 5; p < 24; p++) {
            due("part " + p, x.part(p - 1, p % 7), p);
        }
        due("a 25th part", x.part(0, TEXT), FULL);
        due("UNKNOWN ahead of FULL", x.part(24, TEXT), UNKNOWN);
        due("OUTSIDE ahead of FULL", x.part(0, 7), OUTSIDE);
        due("parts when full", x.count(0), 24);
    }

    private static void set() {
        PagesForAll x = page(0, BUTTON, 0, TEXT, 0, FIELD, 0, GROUP);
        for (int what = OWN; what <= HINT; what++) {
            due("words " + what, x.set(1, what, LEAST), 0);
            due("words again " + what, x.set(1, what, MOST), LEAST);
            due("words of the page " + what, x.set(0, what, -1), 0);
        }
        for (int what = LABEL; what <= SECOND_LABEL; what++) {
            due("label is the page " + what, x.set(1, what, 0), NONE);
            due("label is itself " + what, x.set(1, what, 1), 0);
            due("label is the last " + what, x.set(1, what, 4), 1);
            due("label is no part " + what, x.set(1, what, 5), OUTSIDE);
            due("label below NONE " + what, x.set(1, what, -2), OUTSIDE);
            due("label is NONE " + what, x.set(1, what, NONE), 4);
        }
        due("opens itself", x.set(1, OPENS, 1), NONE);
        due("opens the page", x.set(1, OPENS, 0), OUTSIDE);
        due("opens no part", x.set(1, OPENS, 5), OUTSIDE);
        due("opens NONE", x.set(1, OPENS, NONE), 1);
        dueRange(x, HIDDEN, 1);
        dueRange(x, LONGER, 1);
        dueRange(x, PLACE, 100);
        dueRange(x, WAIT, 1000);
        for (int p : NO_PARTS) {
            due("set of " + p, x.set(p, OWN, 1), UNKNOWN);
            due("UNKNOWN ahead of OUTSIDE", x.set(p, 10, 1), UNKNOWN);
        }
        for (int what : new int[] {LEAST, -1, 10, 18, MOST}) {
            due("set what " + what, x.set(1, what, 0), OUTSIDE);
        }
        due("the page is not hidden", x.set(0, HIDDEN, 1), STATE);
        due("nor set to be shown", x.set(0, HIDDEN, 0), STATE);
        due("OUTSIDE ahead of STATE", x.set(0, HIDDEN, 2), OUTSIDE);
        due("the page is shown", x.told(0, 18), 1);
        setFull();
    }

    private static void dueRange(PagesForAll x, int what, int most) {
        due("least of " + what, x.set(1, what, 0), 0);
        due("most of " + what, x.set(1, what, most), 0);
        due("above most of " + what, x.set(1, what, most + 1), OUTSIDE);
        due("below least of " + what, x.set(1, what, -1), OUTSIDE);
        due("refusals change nothing of " + what, x.told(1, what), most);
        due("back to 0 of " + what, x.set(1, what, 0), most);
    }

    private static void setFull() {
        PagesForAll x = page(0, BUTTON, 0, TEXT, 0, TEXT, 0, TEXT, 0, TEXT, 0, TEXT, 0, TEXT, 0, BUTTON);
        for (int p = 1; p <= 6; p++) {
            due("opens " + p, x.set(p, OPENS, p), NONE);
        }
        due("six are opened", x.count(5), 6);
        due("a seventh is opened", x.set(8, OPENS, 7), FULL);
        due("FULL changes nothing", x.told(8, OPENS), NONE);
        due("OUTSIDE ahead of FULL", x.set(8, OPENS, 9), OUTSIDE);
        due("NONE is opened", x.set(8, OPENS, NONE), NONE);
        due("one of the six is opened", x.set(8, OPENS, 6), NONE);
        due("6 is opened by two", x.set(6, OPENS, 7), FULL);
        due("what it opens is opened by no other", x.set(5, OPENS, 7), 5);
        due("still six", x.count(5), 6);
        due("like ones are counted once", x.set(5, OPENS, 6), 7);
        due("then five", x.count(5), 5);
    }

    private static void told() {
        PagesForAll x = page(0, GROUP, 1, GROUP, 2, TEXT, 0, PICTURE);
        int[] values = {7, 8, 9, 4, 3, 1, 100, 2, 1000, 1};
        for (int what = 0; what < values.length; what++) {
            x.set(1, what, values[what]);
        }
        x.box(1, 11, 12, 13, 14);
        x.colours(1, 15, 16);
        int[] due = {7, 8, 9, 4, 3, 1, 100, 2, 1000, 1, GROUP, 0, 11, 12, 13, 14, 15, 16, 0};
        for (int what = 0; what < due.length; what++) {
            due("told " + what, x.told(1, what), due[what]);
        }
        due("lies in a hidden one", x.told(2, 18), 0);
        due("lies deeper in a hidden one", x.told(3, 18), 0);
        due("is not hidden itself", x.told(3, HIDDEN), 0);
        due("is shown", x.told(4, 18), 1);
        x.set(1, HIDDEN, 0);
        due("is shown again", x.told(3, 18), 1);
        for (int p : NO_PARTS) {
            due("told of " + p, x.told(p, 0), UNKNOWN);
            due("UNKNOWN ahead of OUTSIDE", x.told(p, 19), UNKNOWN);
        }
        for (int what : new int[] {LEAST, -1, 19, MOST}) {
            due("told what " + what, x.told(0, what), OUTSIDE);
        }
    }

    private static void box() {
        PagesForAll x = page(0, TEXT, 0, TEXT, 0, TEXT, 0, TEXT);
        due("box", x.box(1, 0, 10000, 0, 10000), 1);
        due("box of the page", x.box(0, 1, 2, 3, 4), 1);
        int[] wrongLengths = {LEAST, -1, 10001, MOST};
        for (int v : wrongLengths) {
            due("x is " + v, x.box(1, v, 1, 1, 1), OUTSIDE);
            due("y is " + v, x.box(1, 1, v, 1, 1), OUTSIDE);
            due("width is " + v, x.box(1, 1, 1, v, 1), OUTSIDE);
            due("height is " + v, x.box(1, 1, 1, 1, v), OUTSIDE);
        }
        for (int p : NO_PARTS) {
            due("box of " + p, x.box(p, 1, 1, 1, 1), UNKNOWN);
            due("UNKNOWN ahead of OUTSIDE", x.box(p, -1, 1, 1, 1), UNKNOWN);
        }
        int[] held = {0, 10000, 0, 10000};
        for (int i = 0; i < 4; i++) {
            due("refusals leave the box " + i, x.told(1, 12 + i), held[i]);
            due("the page's box " + i, x.told(0, 12 + i), 1 + i);
        }
    }

    private static void colours() {
        PagesForAll x = page(0, TEXT, 0, TEXT, 0, TEXT, 0, TEXT);
        due("black on white", x.colours(1, 0, WHITE), 21000);
        due("white on black", x.colours(1, WHITE, 0), 21000);
        due("white on white", x.colours(1, WHITE, WHITE), 1000);
        due("red on black", x.colours(1, 255 * 65536, 0), 1000 * (2126 * 255 + 127500) / 127500);
        due("green on black", x.colours(1, 255 * 256, 0), 15304);
        due("blue on black", x.colours(1, 255, 0), 2444);
        due("rounded down", x.colours(1, 0x777777, WHITE), 1000L * 2677500 / (10000 * 0x77 + 127500));
        due("red alone", x.colours(1, 65536, 0), 1016);
        due("held ink", x.told(1, 16), 65536);
        due("held ground", x.told(1, 17), 0);
        for (int v : new int[] {LEAST, -1, WHITE + 1, MOST}) {
            due("ink " + v, x.colours(1, v, 0), OUTSIDE);
            due("ground " + v, x.colours(1, 0, v), OUTSIDE);
        }
        for (int p : NO_PARTS) {
            due("colours of " + p, x.colours(p, 0, 0), UNKNOWN);
            due("UNKNOWN ahead of OUTSIDE", x.colours(p, -1, 0), UNKNOWN);
        }
        due("refusals leave the ink", x.told(1, 16), 65536);
    }

    private static void contrast() {
        PagesForAll x = page(0, TEXT, 0, TEXT, 0, TEXT, 0, TEXT);
        due("at first", x.contrast(0), 21000);
        x.colours(1, 4, 49);
        due("of two dark ones", x.contrast(1), 1249);
        for (int p : NO_PARTS) {
            due("contrast of " + p, x.contrast(p), UNKNOWN);
        }
    }

    private static void name() {
        PagesForAll x = page(0, BUTTON, 0, TEXT, 0, TEXT, 1, TEXT);
        dueName("nothing", x, 1);
        x.set(1, HINT, 5);
        dueName("a hint", x, 1, 5);
        x.set(4, OWN, 6);
        dueName("a text in a button", x, 1, 6);
        x.set(4, HIDDEN, 1);
        dueName("a hidden text in a button", x, 1, 5);
        x.set(4, HIDDEN, 0);
        x.set(1, OWN, -7);
        dueName("own words", x, 1, -7);
        x.set(1, TOLD, 8);
        dueName("told words", x, 1, 8);
        x.set(1, LABEL, 2);
        x.set(1, SECOND_LABEL, 3);
        dueName("labels without words", x, 1, 8);
        x.set(3, OWN, 10);
        dueName("a second label alone", x, 1, 10);
        x.set(2, OWN, 9);
        dueName("two labels", x, 1, 9, 10);
        x.set(2, HIDDEN, 1);
        dueName("labels need not be shown", x, 1, 9, 10);
        x.set(1, SECOND_LABEL, NONE);
        dueName("a first label alone", x, 1, 9);
        x.set(1, SECOND_LABEL, 2);
        dueName("twice the same label", x, 1, 9, 9);
        x.set(2, TOLD, 77);
        dueName("of labels the own words alone", x, 1, 9, 9);
        dueName("what lies in no button", x, 0);
        for (int p : NO_PARTS) {
            due("name of " + p, x.name(p), UNKNOWN);
        }
        namesOfTexts();
    }

    private static void namesOfTexts() {
        PagesForAll x = page(0, FIELD, 1, TEXT, 0, BUTTON, 3, GROUP, 3, TEXT, 4, TEXT, 3, FIELD, 7, TEXT, 3, PICTURE);
        for (int p = 4; p <= 9; p++) {
            x.set(p, OWN, p);
        }
        x.set(2, OWN, 2);
        dueName("of a field: no texts in it", x, 1);
        dueName("texts in order, at any depth", x, 3, 6, 5, 8);
        x.set(4, HIDDEN, 1);
        dueName("texts in hidden groups are left out", x, 3, 5, 8);
        x.set(5, OWN, 0);
        dueName("texts without words are left out", x, 3, 8);
        x.set(3, HIDDEN, 1);
        x.set(3, HINT, 12);
        dueName("in a hidden button no text is shown", x, 3, 12);
        PagesForAll many = page(0, BUTTON, 1, TEXT, 1, TEXT, 1, TEXT, 1, TEXT, 1, TEXT, 1, TEXT, 1, TEXT, 1, TEXT,
                1, TEXT, 1, TEXT);
        for (int p = 2; p <= 11; p++) {
            many.set(p, OWN, 100 + p);
        }
        dueName("eight words at most", many, 1, 102, 103, 104, 105, 106, 107, 108, 109);
    }

    private static void word() {
        PagesForAll x = page(0, BUTTON, 0, TEXT, 0, TEXT, 0, TEXT);
        x.set(1, LABEL, 2);
        x.set(1, SECOND_LABEL, 3);
        x.set(2, OWN, LEAST);
        x.set(3, OWN, MOST);
        due("first", x.word(1, 0), LEAST);
        due("second", x.word(1, 1), MOST);
        for (int k : new int[] {LEAST, -1, 2, 8, MOST}) {
            due("word " + k, x.word(1, k), 0);
        }
        for (int p : NO_PARTS) {
            due("word of " + p, x.word(p, 0), 0);
        }
    }

    private static void said() {
        PagesForAll x = page(0, GROUP, 0, TEXT, 1, TEXT, 1, BUTTON, 4, TEXT, 4, GROUP, 6, TEXT, 6, FIELD, 8, TEXT,
                0, PICTURE, 0, TRAP, 0, LIVE, 12, TEXT);
        dueSaid("texts without words", x, 4, 8, 10);
        for (int p = 0; p <= 13; p++) {
            x.set(p, OWN, 1);
        }
        dueSaid("in order", x, 3, 4, 8, 2, 10, 13);
        due("a later part in an early group", x.part(1, PICTURE), 14);
        dueSaid("behind all that its parent has", x, 3, 4, 8, 14, 2, 10, 13);
        x.set(4, HIDDEN, 1);
        dueSaid("hidden", x, 3, 14, 2, 10, 13);
        due("least", x.said(LEAST), NONE);
        due("most", x.said(MOST), NONE);
        PagesForAll y = page(0, FIELD, 1, TEXT);
        y.set(2, OWN, 1);
        dueSaid("a text in a field", y, 1, 2);
    }

    private static void pairs() {
        due("no boxes", twoPictures(0, 0, 0, 0, 0, 0, 0, 0).pairs(), 0);
        due("below", twoPictures(0, 0, 5, 5, 0, 5, 5, 5).pairs(), 0);
        due("to the right", twoPictures(0, 0, 5, 5, 5, 0, 5, 5).pairs(), 0);
        due("wholly above", twoPictures(0, 5, 5, 5, 0, 0, 5, 5).pairs(), 1);
        due("above, but one too high", twoPictures(0, 5, 5, 5, 0, 0, 5, 6).pairs(), 0);
        due("wholly left", twoPictures(5, 0, 5, 5, 0, 0, 5, 5).pairs(), 1);
        due("left, but one too wide", twoPictures(5, 0, 5, 5, 0, 0, 6, 5).pairs(), 0);
        due("left and below by one too few", twoPictures(5, 0, 5, 6, 0, 5, 5, 5).pairs(), 1);
        due("left and wholly below", twoPictures(5, 0, 5, 5, 0, 5, 5, 5).pairs(), 0);
        due("left and wholly above", twoPictures(5, 5, 5, 5, 0, 0, 5, 5).pairs(), 1);
        due("right and wholly above", twoPictures(0, 5, 5, 5, 9, 0, 5, 5).pairs(), 1);
        due("the first without width", twoPictures(0, 5, 0, 5, 0, 0, 5, 5).pairs(), 0);
        due("the first without height", twoPictures(0, 5, 5, 0, 0, 0, 5, 5).pairs(), 0);
        due("the second without width", twoPictures(0, 5, 5, 5, 0, 0, 0, 5).pairs(), 0);
        due("the second without height", twoPictures(0, 5, 5, 5, 0, 0, 5, 0).pairs(), 0);
        due("one has one", twoPictures(0, 1, 1, 1, 0, 0, 1, 1).pairs(), 1);
        PagesForAll x = page(0, PICTURE, 0, PICTURE, 0, PICTURE, 0, TEXT, 0, GROUP);
        for (int p = 1; p <= 5; p++) {
            x.box(p, 0, 100 - 10 * p, 10, 10);
        }
        due("all pairs of three", x.pairs(), 3);
        x.set(4, OWN, 1);
        due("all pairs of four", x.pairs(), 6);
        x.set(2, HIDDEN, 1);
        due("what is hidden is in no pair", x.pairs(), 3);
    }

    private static void stop() {
        PagesForAll x = page(0, BUTTON, 0, FIELD, 0, GROUP, 0, BUTTON, 3, FIELD, 0, TEXT, 0, PICTURE, 0, TRAP, 0, LIVE);
        dueStops("in order", x, 1, 2, 5, 4);
        x.set(4, PLACE, 100);
        dueStops("a place is ahead of none", x, 4, 1, 2, 5);
        x.set(5, PLACE, 1);
        dueStops("by place", x, 5, 4, 1, 2);
        x.set(2, PLACE, 1);
        dueStops("like places in order", x, 2, 5, 4, 1);
        x.set(6, PLACE, 1);
        x.set(8, PLACE, 1);
        dueStops("others are no stops", x, 2, 5, 4, 1);
        x.set(3, HIDDEN, 1);
        dueStops("hidden", x, 2, 4, 1);
        x.set(4, PLACE, 0);
        dueStops("without place again", x, 2, 1, 4);
        due("a new one", x.part(1, BUTTON), 10);
        dueStops("a new one in order", x, 2, 1, 10, 4);
        due("least", x.stop(LEAST), NONE);
        due("most", x.stop(MOST), NONE);
    }

    private static void press() {
        PagesForAll x = new PagesForAll();
        for (int key = NEXT; key <= ENTER; key++) {
            due("without stops " + key, x.press(key), NONE);
        }
        for (int key : new int[] {LEAST, -1, 3, MOST}) {
            due("no key " + key, x.press(key), OUTSIDE);
        }
        x = page(0, BUTTON, 0, FIELD, 0, BUTTON);
        due("to the first", x.press(NEXT), 1);
        due("to the next", x.press(NEXT), 2);
        due("to the last", x.press(NEXT), 3);
        due("from the last to the first", x.press(NEXT), 1);
        due("from the first back to the last", x.press(BACK), 3);
        due("back", x.press(BACK), 2);
        due("a refused key changes nothing", x.press(3), OUTSIDE);
        due("focus stays", x.focus(), 2);
        x.set(3, PLACE, 5);
        due("3 is now the first", x.press(NEXT), 3);
        x.leave();
        due("from NONE back to the last", x.press(BACK), 2);
        x.set(2, HIDDEN, 1);
        due("hidden focus is NONE", x.focus(), NONE);
        due("to the first again", x.press(NEXT), 3);
        x.set(1, HIDDEN, 1);
        due("one stop alone, next", x.press(NEXT), 3);
        due("one stop alone, back", x.press(BACK), 3);
        pressInTraps();
        pressEnter();
    }

    private static void pressInTraps() {
        PagesForAll x = page(0, BUTTON, 0, TRAP, 2, FIELD, 2, TRAP, 4, FIELD, 4, FIELD, 2, FIELD, 0, BUTTON);
        int[] next = {1, 3, 5, 6, 5, 6};
        for (int want : next) {
            due("next into traps", x.press(NEXT), want);
        }
        due("back in the inner trap", x.press(BACK), 5);
        due("back in the inner trap from its first", x.press(BACK), 6);
        x.leave();
        due("back from NONE", x.press(BACK), 8);
        due("back into the outer trap", x.press(BACK), 7);
        due("in the outer trap", x.caught(), 2);
        due("next in the outer trap from its last", x.press(NEXT), 3);
        due("back in the outer trap from its first", x.press(BACK), 7);
        x.set(6, PLACE, 9);
        due("by place in the trap", x.press(NEXT), 6);
    }

    private static void pressEnter() {
        PagesForAll x = page(0, BUTTON, 0, GROUP, 2, BUTTON, 0, FIELD, 0, BUTTON);
        x.set(1, OPENS, 2);
        x.set(3, OPENS, 2);
        x.set(4, OPENS, 2);
        x.press(NEXT);
        due("enter hides", x.press(ENTER), 1);
        due("is hidden", x.told(2, HIDDEN), 1);
        due("next goes past it", x.press(NEXT), 4);
        due("enter in a field", x.press(ENTER), 4);
        due("a field opens nothing", x.told(2, HIDDEN), 1);
        due("to a button that opens none", x.press(NEXT), 5);
        due("which does nothing", x.press(ENTER), 5);
        x.press(NEXT);
        due("enter shows", x.press(ENTER), 1);
        due("is shown", x.told(2, HIDDEN), 0);
        due("to what was opened", x.press(NEXT), 3);
        due("it hides what it lies in", x.press(ENTER), NONE);
        due("from NONE", x.press(NEXT), 1);
        x.set(1, OPENS, 1);
        due("it hides itself", x.press(ENTER), NONE);
        due("it is hidden", x.told(1, 18), 0);
    }

    private static void focus() {
        PagesForAll x = page(0, GROUP, 1, GROUP, 2, BUTTON);
        due("at first", x.focus(), NONE);
        x.press(NEXT);
        due("after next", x.focus(), 3);
        x.set(2, OWN, 5);
        due("other changes leave it", x.focus(), 3);
        x.set(1, HIDDEN, 1);
        due("what it lies in is hidden", x.focus(), NONE);
        x.set(1, HIDDEN, 0);
        due("it does not come back", x.focus(), NONE);
    }

    private static void caught() {
        PagesForAll x = page(0, TRAP, 1, GROUP, 2, BUTTON, 1, TRAP, 4, FIELD, 0, FIELD);
        due("no focus", x.caught(), NONE);
        x.press(NEXT);
        due("at any depth", x.caught(), 1);
        x.press(NEXT);
        due("by the innermost", x.caught(), 4);
        x.leave();
        due("after leaving", x.caught(), NONE);
        x.press(BACK);
        due("in no trap", x.caught(), NONE);
    }

    private static void leave() {
        PagesForAll x = page(0, BUTTON);
        due("from NONE", x.leave(), NONE);
        x.press(NEXT);
        due("from a part", x.leave(), 1);
        due("then NONE", x.focus(), NONE);
    }

    /** 1 opens the group 2 (hidden) in which 3 opens the trap 5 in which 6 opens the trap. */
    private static PagesForAll doors() {
        PagesForAll x = page(0, BUTTON, 0, GROUP, 2, BUTTON, 0, FIELD, 0, TRAP, 5, BUTTON, 5, FIELD, 0, TEXT);
        x.set(1, OPENS, 2);
        x.set(2, HIDDEN, 1);
        x.set(3, OPENS, 5);
        x.set(5, HIDDEN, 1);
        x.set(6, OPENS, 5);
        return x;
    }

    private static void walk() {
        PagesForAll x = doors();
        long before = x.digest();
        int[] lengths = {NONE, 1, NONE, 3, 1, NONE, 6, 6, NONE};
        for (int p = 0; p < lengths.length; p++) {
            due("walk to " + p, x.walk(p), lengths[p]);
        }
        due("nothing is changed", x.digest(), before);
        x.press(NEXT);
        due("to the focus", x.walk(1), 0);
        due("to a door within", x.walk(3), 2);
        x.set(2, HIDDEN, 0);
        due("an open door", x.walk(3), 1);
        x.set(3, OPENS, NONE);
        due("no door any more", x.walk(7), NONE);
        x.set(5, HIDDEN, 0);
        due("it is shown", x.walk(7), 1);
        PagesForAll y = page(0, TRAP, 1, FIELD, 0, FIELD);
        y.press(NEXT);
        due("out of a closed trap", y.walk(3), NONE);
        y.leave();
        due("past a closed trap", y.walk(3), 1);
        for (int p : new int[] {LEAST, -1, 4, 24, MOST}) {
            due("walk to " + p, y.walk(p), UNKNOWN);
        }
        walkThroughSixDoors();
    }

    /** Each of six buttons opens the group with the next one; all groups are hidden at first. */
    private static void walkThroughSixDoors() {
        PagesForAll x = page(0, BUTTON, 0, GROUP, 2, BUTTON, 0, GROUP, 4, BUTTON, 0, GROUP, 6, BUTTON, 0, GROUP,
                8, BUTTON, 0, GROUP, 10, BUTTON, 0, GROUP, 12, FIELD);
        for (int p = 2; p <= 12; p += 2) {
            x.set(p - 1, OPENS, p);
            x.set(p, HIDDEN, 1);
        }
        due("six doors", x.count(5), 6);
        due("through six doors", x.walk(13), 13);
        due("all are still hidden", x.told(12, 18), 0);
    }

    private static void key() {
        PagesForAll x = doors();
        long before = x.digest();
        int[] keys = {NONE, NEXT, NONE, NEXT, BACK, NONE, NEXT, NEXT, NONE};
        for (int p = 0; p < keys.length; p++) {
            due("key to " + p, x.key(p), keys[p]);
        }
        due("nothing is changed", x.digest(), before);
        x.press(NEXT);
        due("to the focus", x.key(1), NONE);
        due("by enter", x.key(3), ENTER);
        due("of like walks the least key", x.key(4), NEXT);
        PagesForAll y = page(0, BUTTON, 0, BUTTON, 0, BUTTON, 0, BUTTON);
        y.press(NEXT);
        due("two next or two back", y.key(3), NEXT);
        due("one back", y.key(4), BACK);
        for (int p : NO_PARTS) {
            due("key to " + p, y.key(p), UNKNOWN);
        }
    }

    private static void keeper() {
        PagesForAll x = page(0, TRAP, 1, BUTTON, 1, FIELD, 0, FIELD);
        due("no focus", x.keeper(), NONE);
        x.press(BACK);
        due("in no trap", x.keeper(), NONE);
        x.press(NEXT);
        due("kept", x.keeper(), 1);
        x.set(3, OPENS, 1);
        due("a field opens nothing", x.keeper(), 1);
        x.set(2, OPENS, 1);
        due("a button opens it", x.keeper(), NONE);
        x.set(4, HIDDEN, 1);
        due("it is opened, but nothing lies outside", x.keeper(), 1);
        PagesForAll y = page(0, TRAP, 1, TRAP, 2, BUTTON, 1, FIELD, 0, FIELD);
        y.set(3, OPENS, 2);
        y.press(NEXT);
        due("the inner one is left", y.keeper(), NONE);
        y.set(3, OPENS, NONE);
        due("the inner one keeps", y.keeper(), 2);
        y.leave();
        y.press(BACK);
        y.press(BACK);
        due("outside of the outer one", y.focus(), 4);
        due("the outer one keeps", y.keeper(), 1);
        long before = y.digest();
        y.keeper();
        due("nothing is changed", y.digest(), before);
    }

    private static void hear() {
        PagesForAll x = page(0, LIVE, 1, LIVE, 2, TEXT, 1, TEXT, 0, TEXT, 0, BUTTON);
        x.set(5, OWN, 1);
        due("in no live", x.hear(), NONE);
        x.set(3, OWN, 1);
        x.set(4, OWN, 1);
        x.set(3, OWN, 2);
        due("spoken once", x.count(4), 2);
        due("the innermost first", x.hear(), 2);
        due("then the outer one", x.hear(), 1);
        due("then none", x.hear(), NONE);
        x.set(3, OWN, 2);
        x.set(3, HIDDEN, 0);
        x.set(3, TOLD, 2);
        x.set(3, HINT, 2);
        x.set(3, PLACE, 2);
        due("nothing becomes another", x.hear(), NONE);
        x.set(3, HIDDEN, 1);
        due("hidden", x.hear(), 2);
        x.set(3, OWN, 3);
        due("words of a hidden one", x.hear(), 2);
        x.set(2, OWN, 3);
        due("not itself, but what it lies in", x.hear(), 1);
        x.set(2, HIDDEN, 1);
        due("it is hidden", x.hear(), 1);
        x.set(3, OWN, 4);
        due("a hidden live does not speak, nor one around it", x.hear(), NONE);
        x.set(2, HIDDEN, 0);
        x.set(3, OWN, 5);
        x.set(1, HIDDEN, 1);
        due("those that have come stay when hidden", x.count(4), 2);
        due("first the outer one", x.hear(), 1);
        x.set(1, HIDDEN, 0);
        x.set(4, OWN, 9);
        due("then the inner one", x.hear(), 2);
        due("it comes behind again", x.hear(), 1);
        x.set(6, OPENS, 4);
        x.press(NEXT);
        x.press(ENTER);
        due("by enter", x.hear(), 1);
        x.set(1, OWN, 5);
        due("a live in none", x.hear(), NONE);
    }

    private static void wrongs() {
        PagesForAll x = page(0, BUTTON, 0, FIELD, 0, PICTURE, 0, TEXT, 0, GROUP);
        dueWrongs("nameless", x, 1, 0, 2, 0, 3, 0);
        x.set(1, OWN, 5);
        x.set(2, TOLD, 5);
        x.set(3, HINT, 5);
        dueWrongs("twins", x, 2, 1);
        x.set(1, HIDDEN, 1);
        dueWrongs("no twin of a hidden one", x);
        x.set(1, HIDDEN, 0);
        x.set(1, LABEL, 2);
        x.set(1, SECOND_LABEL, 4);
        x.set(2, OWN, 5);
        x.set(4, OWN, 6);
        dueWrongs("names of unlike length", x);
        x.set(2, LABEL, 2);
        x.set(2, SECOND_LABEL, 1);
        dueWrongs("names of one unlike word", x);
        x.set(2, SECOND_LABEL, 4);
        dueWrongs("names of two like words", x, 2, 1);
        wrongsOfColour();
        wrongsOfTraps();
        wrongsOfPlaceAndTime();
    }

    /** Greys of light 10000 each on black: 1000 and 1000 times 10000 grey by 127500. */
    private static void wrongsOfColour() {
        PagesForAll x = page(0, TEXT, 0, BUTTON, 0, FIELD, 0, PICTURE, 0, GROUP);
        for (int p = 1; p <= 5; p++) {
            x.set(p, OWN, p);
            due("44 on black", x.colours(p, 44 * 0x10101, 0), 4450);
        }
        dueWrongs("a pale text", x, 1, 2);
        due("45 on black", x.colours(1, 45 * 0x10101, 0), 4529);
        dueWrongs("no pale text", x);
        due("62 green and 4 blue on black", x.colours(1, 62 * 256 + 4, 0), 4500);
        dueWrongs("4500 is not below", x);
        for (int p = 1; p <= 5; p++) {
            due("25 on black", x.colours(p, 25 * 0x10101, 0), 2960);
        }
        dueWrongs("pale stops", x, 1, 2, 2, 2, 3, 2);
        due("25 and 7 blue on black", x.colours(2, 0, 25 * 0x10101 + 7), 3000);
        dueWrongs("3000 is not below", x, 1, 2, 3, 2);
        x.set(1, OWN, 0);
        x.set(3, HIDDEN, 1);
        dueWrongs("a text without words is pale, a hidden field not", x, 1, 2);
    }

    private static void wrongsOfTraps() {
        PagesForAll x = page(0, GROUP, 1, TRAP, 2, GROUP, 3, BUTTON, 2, FIELD, 0, BUTTON, 0, GROUP);
        for (int p = 1; p <= 7; p++) {
            x.set(p, OWN, p);
        }
        dueWrongs("closed", x, 2, 3);
        x.set(4, OPENS, 2);
        dueWrongs("opened", x);
        x.set(4, OPENS, 1);
        dueWrongs("what it lies in is opened", x);
        x.set(4, OPENS, 3);
        dueWrongs("what lies in it is opened", x, 2, 3);
        x.set(5, OPENS, 2);
        x.set(6, OPENS, 2);
        dueWrongs("opened by a field in it, a button outside", x, 2, 3);
        x.set(4, OPENS, 2);
        x.set(3, HIDDEN, 1);
        dueWrongs("the button that opens it is hidden", x, 2, 3);
        x.set(5, HIDDEN, 1);
        dueWrongs("no stops in it", x);
        x.set(5, HIDDEN, 0);
        x.set(2, HIDDEN, 1);
        dueWrongs("a hidden trap", x);
    }

    private static void wrongsOfPlaceAndTime() {
        dueWrongs("astray", twoPictures(0, 5, 5, 5, 0, 0, 5, 5), 1, 4);
        dueWrongs("astray to the left", twoPictures(5, 0, 5, 5, 0, 0, 5, 5), 1, 4);
        dueWrongs("not astray", twoPictures(0, 0, 5, 5, 0, 5, 5, 5));
        PagesForAll x = page(0, PICTURE, 0, PICTURE, 0, PICTURE);
        for (int p = 1; p <= 3; p++) {
            x.set(p, OWN, p);
            x.box(p, 0, 100 - 10 * p, 10, 10);
        }
        dueWrongs("once for each that is ahead", x, 1, 4, 2, 4);
        PagesForAll y = page(0, TEXT, 0, GROUP);
        int[] waits = {0, 1, 19, 20, 1000};
        int[] wrongs = {0, 1, 1, 0, 0};
        for (int i = 0; i < waits.length; i++) {
            y.set(1, WAIT, waits[i]);
            due("wait of " + waits[i], y.wrongs(), wrongs[i]);
        }
        y.set(1, WAIT, 19);
        y.set(0, WAIT, 1);
        dueWrongs("short, the page too", y, 0, 5, 1, 5);
        y.set(1, LONGER, 1);
        dueWrongs("longer", y, 0, 5);
        y.set(1, LONGER, 0);
        y.set(1, HIDDEN, 1);
        dueWrongs("hidden", y, 0, 5);
    }

    private static void wrong() {
        PagesForAll x = page(0, BUTTON, 0, FIELD);
        x.set(2, OWN, 1);
        x.set(1, WAIT, 5);
        x.colours(1, 0, 0);
        dueWrongs("of each by their sort", x, 1, 0, 1, 2, 1, 5);
        for (int k : new int[] {LEAST, -1, 3, MOST}) {
            due("part of wrong " + k, x.wrong(k, 0), NONE);
            due("sort of wrong " + k, x.wrong(k, 1), NONE);
            due("OUTSIDE ahead of NONE", x.wrong(k, 2), OUTSIDE);
        }
        for (int what : new int[] {LEAST, -1, 2, MOST}) {
            due("what is " + what, x.wrong(0, what), OUTSIDE);
        }
    }

    private static void mend() {
        PagesForAll x = page(0, BUTTON, 0, TEXT, 0, FIELD);
        x.set(1, LABEL, 2);
        x.set(1, SECOND_LABEL, 0);
        due("nameless", x.mend(0), 1);
        due("labels go", x.told(1, LABEL), NONE);
        due("both of them", x.told(1, SECOND_LABEL), NONE);
        due("told words come", x.told(1, TOLD), 1000001);
        x.set(3, LABEL, 1);
        x.set(3, SECOND_LABEL, 2);
        x.set(2, OWN, 1000001);
        dueWrongs("a twin", x, 3, 1);
        due("twin", x.mend(0), 0);
        due("its label goes", x.told(3, LABEL), NONE);
        due("its second label goes", x.told(3, SECOND_LABEL), NONE);
        due("its told words", x.told(3, TOLD), 1000003);
        x.set(2, WAIT, 3);
        due("short", x.mend(0), 0);
        due("it is longer", x.told(2, LONGER), 1);
        due("its wait stays", x.told(2, WAIT), 3);
        for (int k : new int[] {LEAST, -1, 0, 1, MOST}) {
            due("mend of none " + k, x.mend(k), UNKNOWN);
        }
        mendColours();
        PagesForAll y = twoPictures(0, 5, 5, 5, 0, 0, 5, 5);
        due("astray", y.mend(0), STATE);
        y = page(0, TRAP, 1, FIELD);
        y.set(2, OWN, 1);
        long before = y.digest();
        due("closed", y.mend(0), STATE);
        due("a refusal changes nothing", y.digest(), before);
    }

    private static void mendColours() {
        PagesForAll x = page(0, TEXT);
        int[] grounds = {0, WHITE, 45 * 0x10101, 46 * 0x10101};
        int[] inks = {WHITE, 0, WHITE, 0};
        for (int i = 0; i < grounds.length; i++) {
            x.colours(1, grounds[i], grounds[i]);
            due("pale on " + grounds[i], x.mend(0), 0);
            due("ink on " + grounds[i], x.told(1, 16), inks[i]);
            due("ground stays " + grounds[i], x.told(1, 17), grounds[i]);
        }
        x.colours(1, 0x0a29c5, 0x0a29c5);
        due("like contrasts", x.mend(0), 0);
        due("of like ones black", x.told(1, 16), 0);
    }

    private static void count() {
        PagesForAll x = page(0, LIVE, 1, BUTTON, 1, TEXT, 0, FIELD, 0, PICTURE, 0, GROUP, 6, FIELD);
        x.set(3, OWN, 5);
        x.set(6, HIDDEN, 1);
        x.set(2, OPENS, 6);
        x.set(3, OPENS, 6);
        x.set(4, OPENS, 1);
        int[] want = {8, 6, 2, 4, 1, 2};
        for (int what = 0; what < want.length; what++) {
            due("count " + what, x.count(what), want[what]);
        }
        for (int what : new int[] {LEAST, -1, 6, MOST}) {
            due("count " + what, x.count(what), OUTSIDE);
        }
    }

    private static void digest() {
        PagesForAll x = new PagesForAll();
        due("of a new object", x.digest(), digestOf(x, 0));
        x = page(0, LIVE, 1, TEXT, 0, LIVE, 3, BUTTON, 0, PICTURE);
        x.set(4, OWN, LEAST);
        x.set(2, OWN, MOST);
        x.box(1, 1, 2, 3, 4);
        x.colours(2, 5, 6);
        x.press(NEXT);
        due("two are spoken", x.count(4), 2);
        due("two are spoken", x.digest(), digestOf(x, 2, 3, 1));
        due("the first goes", x.hear(), 3);
        due("one is spoken", x.digest(), digestOf(x, 2, 1));
        x.leave();
        due("no focus", x.digest(), digestOf(x, 2, 1));
    }

    private static long digestOf(PagesForAll x, int wrongs, int... spoken) {
        long h = 107;
        for (int p = 0; p < x.count(0); p++) {
            for (int what = 0; what <= 17; what++) {
                h = 31 * h + x.told(p, what);
            }
        }
        h = 31 * h + x.focus();
        for (int live : spoken) {
            h = 31 * h + live;
        }
        return 31 * h + wrongs;
    }

    public static void main(String[] args) {
        newObject();
        part();
        set();
        told();
        box();
        colours();
        contrast();
        name();
        word();
        said();
        pairs();
        stop();
        press();
        focus();
        caught();
        leave();
        walk();
        key();
        keeper();
        hear();
        wrongs();
        wrong();
        mend();
        count();
        digest();
        end();
    }
}
