/** Each sentence of the document's terms that names a boundary case (it is quoted) has a test of its own here. */
public final class TermsTest extends Checks {

    // ======== 1, parts

    /** "PARTS (24 at most ..)" */
    static void twentyFourPartsAtMost() {
        for (PagesForAll x : new PagesForAll[] {fullPage(GROUP), deepPage(GROUP)}) {
            due("24 with THE PAGE", x.count(PARTS), 24);
            due("the last one is there", x.told(LAST_PART, KIND), GROUP);
            due("no 25th on THE PAGE", x.part(0, TEXT), FULL);
            due("no 25th in the last one", x.part(LAST_PART, TEXT), FULL);
            due("still 24", x.count(PARTS), 24);
            due("24 names nothing", x.told(24, KIND), UNKNOWN);
        }
    }

    /** "numbered as they come": a refused one takes no number. */
    static void refusedPartsTakeNoNumber() {
        PagesForAll x = new PagesForAll();
        due("in its own number to be", x.part(1, GROUP), UNKNOWN);
        due("the first", x.part(0, GROUP), 1);
        due("of no KIND", x.part(1, 7), OUTSIDE);
        due("the second", x.part(1, GROUP), 2);
        due("in what is not there yet", x.part(3, GROUP), UNKNOWN);
        due("the third", x.part(1, GROUP), 3);
        due("with THE PAGE", x.count(PARTS), 4);
    }

    /** "0 is THE PAGE", "GROUP (THE PAGE is one)": it is there at once, and lies in none. */
    static void thePageIsAGroupInNone() {
        PagesForAll x = new PagesForAll();
        due("KIND", x.told(0, KIND), GROUP);
        due("PARENT", x.told(0, PARENT), NONE);
        due("SHOWN", x.told(0, SHOWN), 1);
        due("the only one", x.told(1, KIND), UNKNOWN);
    }

    /** "each other one comes behind all that its PARENT (a lesser number) has": in a full page, filled from both ends. */
    static void partsComeBehindAllThatTheirParentHas() {
        PagesForAll x = page(0, PICTURE, 0, PICTURE, 1, PICTURE, 3, PICTURE, 1, PICTURE, 3, PICTURE, 2, PICTURE,
            0, PICTURE, 4, PICTURE);
        dueSaid("IN ORDER", x, 1, 3, 4, 9, 6, 5, 2, 7, 8);
        for (int p = 10; p <= LAST_PART; p++) {
            due("one more in the first", x.part(1, PICTURE), p);
        }
        dueSaid("IN ORDER when full", x, 1, 3, 4, 9, 6, 5, 10, 11, 12, 13, 14, 15, 16, 17, 18, 19, 20, 21, 22, 23, 2, 7,
            8);
    }

    /** "all of them may have PARTS" */
    static void allKindsMayHaveParts() {
        for (int kind = GROUP; kind <= LIVE; kind++) {
            PagesForAll x = page(0, kind);
            for (int inner = GROUP; inner <= LIVE; inner++) {
                due("kind " + inner + " in kind " + kind, x.part(1, inner), 2 + inner);
                due("PARENT", x.told(2 + inner, PARENT), 1);
                due("KIND", x.told(2 + inner, KIND), inner);
            }
        }
    }

    /** "(ints; 0: none)": every int but 0 is words. */
    static void onlyZeroIsNoWords() {
        for (int what = OWN; what <= HINT; what++) {
            PagesForAll x = page(0, FIELD);
            for (int words : new int[] {LEAST, NONE, 1, UNKNOWN, MOST}) {
                x.set(1, what, words);
                dueName("words " + words + " of " + what, x, 1, words);
            }
            x.set(1, what, 0);
            dueName("none of " + what, x, 1);
        }
    }

    /** "two LABELS (PARTS, or NONE)": any PARTS, also THE PAGE, itself and what is HIDDEN. */
    static void labelsMayBeAnyParts() {
        PagesForAll x = page(0, FIELD, 1, GROUP);
        x.set(0, OWN, 10);
        x.set(1, OWN, 11);
        x.set(2, OWN, 12);
        x.set(2, HIDDEN, 1);
        x.set(1, LABEL, 0);
        dueName("THE PAGE", x, 1, 10);
        x.set(1, SECOND_LABEL, 1);
        dueName("THE PAGE, itself", x, 1, 10, 11);
        x.set(1, LABEL, 2);
        dueName("a HIDDEN one, itself", x, 1, 12, 11);
        x.set(1, LABEL, NONE);
        dueName("NONE, itself", x, 1, 11);
        x.set(0, LABEL, 2);
        dueName("of THE PAGE", x, 0, 12);
    }

    /** "a PLACE in ORDER (0: none, or 1 to 100)": the last PLACE is ahead of none. */
    static void lastPlaceIsAheadOfNone() {
        PagesForAll x = page(0, BUTTON, 0, BUTTON, 0, BUTTON);
        x.set(3, PLACE, 100);
        dueStops("100 and none", x, 3, 1, 2);
        x.set(2, PLACE, 1);
        dueStops("1, 100 and none", x, 2, 3, 1);
        x.set(1, PLACE, 99);
        dueStops("1, 99 and 100", x, 2, 1, 3);
        x.set(2, PLACE, 0);
        dueStops("99, 100 and none", x, 1, 3, 2);
        due("above the last", x.set(2, PLACE, 101), OUTSIDE);
        dueStops("as before", x, 1, 3, 2);
    }

    /** "At first all is 0, NONE, not HIDDEN, INK 0, GROUND 16777215.", of each KIND, up to the last PART. */
    static void allIsNothingAtFirst() {
        int[] first = {0, 0, 0, NONE, NONE, 0, 0, NONE, 0, 0, 0, 0, 0, 0, 0, 0, 0, WHITE, 1};
        for (int kind = GROUP; kind <= LIVE; kind++) {
            PagesForAll x = fullPage(kind);
            for (int p : new int[] {1, LAST_PART}) {
                for (int what = 0; what < first.length; what++) {
                    due("kind " + kind + ": told " + what, x.told(p, what), what == KIND ? kind : first[what]);
                }
                due("contrast", x.contrast(p), 21000);
                dueName("name", x, p);
            }
        }
    }

    /** "It is SHOWN, if neither it is HIDDEN nor any that it lies in.": through 23 levels. */
    static void hiddenAtAnyDepth() {
        PagesForAll x = deepPage(GROUP);
        due("all are SHOWN", x.count(SHOWN_ONES), 24);
        for (int p = LAST_PART; p >= 1; p--) {
            x.set(p, HIDDEN, 1);
            due("only what lies outside of " + p, x.count(SHOWN_ONES), p);
            due("not itself", x.told(p, SHOWN), 0);
            due("not what lies deepest in it", x.told(LAST_PART, SHOWN), 0);
            due("but its PARENT", x.told(p - 1, SHOWN), 1);
        }
        for (int p = 1; p < LAST_PART; p++) {
            x.set(p, HIDDEN, 0);
            due("up to the next HIDDEN one", x.count(SHOWN_ONES), p + 1);
        }
        x.set(LAST_PART, HIDDEN, 0);
        due("all are SHOWN again", x.count(SHOWN_ONES), 24);
    }

    /** A BUTTON with so many TEXTS, with words from 101 on. */
    private static PagesForAll buttonWithTexts(int texts) {
        PagesForAll x = page(0, BUTTON);
        for (int i = 1; i <= texts; i++) {
            x.set(x.part(1, TEXT), OWN, 100 + i);
        }
        return x;
    }

    /** "a row of ints (8 at most; what is more is left out)" */
    static void eightWordsAtMost() {
        dueName("seven", buttonWithTexts(7), 1, 101, 102, 103, 104, 105, 106, 107);
        dueName("eight", buttonWithTexts(8), 1, 101, 102, 103, 104, 105, 106, 107, 108);
        dueName("nine", buttonWithTexts(9), 1, 101, 102, 103, 104, 105, 106, 107, 108);
        dueName("twenty-two", buttonWithTexts(22), 1, 101, 102, 103, 104, 105, 106, 107, 108);
        PagesForAll x = buttonWithTexts(9);
        x.set(2, OWN, 0);
        dueName("of nine the first has none", x, 1, 102, 103, 104, 105, 106, 107, 108, 109);
    }

    /** "what is more is left out", so names that are alike up to there are alike. */
    static void whatIsLeftOutMakesNoNameUnlike() {
        PagesForAll x = buttonWithTexts(9);
        x.set(1, HINT, 1);
        due("a second BUTTON", x.part(0, BUTTON), 11);
        dueWrongs("no words", x, 11, NAMELESS);
        for (int i = 1; i <= 7; i++) {
            x.set(x.part(11, TEXT), OWN, 100 + i);
            dueWrongs("fewer words", x);
        }
        x.set(x.part(11, TEXT), OWN, 108);
        dueWrongs("eight words and nine", x, 11, TWIN);
        x.set(x.part(11, TEXT), OWN, 7);
        dueWrongs("an unlike ninth", x, 11, TWIN);
        x.set(19, OWN, 7);
        dueWrongs("an unlike eighth", x);
    }

    /** "OWN words of its LABELS, the first, then the second, as far as there are any" */
    static void wordsOfLabelsAsFarAsThereAreAny() {
        PagesForAll x = page(0, BUTTON, 0, GROUP, 0, PICTURE);
        x.set(1, TOLD, 1);
        x.set(1, LABEL, 3);
        x.set(1, SECOND_LABEL, 2);
        dueName("neither has words", x, 1, 1);
        x.set(2, OWN, 22);
        dueName("the second has", x, 1, 22);
        x.set(3, OWN, 33);
        dueName("both have, not by number", x, 1, 33, 22);
        x.set(2, OWN, 0);
        dueName("the first has", x, 1, 33);
        x.set(3, OWN, 0);
        x.set(3, TOLD, 5);
        x.set(3, HINT, 5);
        dueName("TOLD words and HINT of LABELS are not taken", x, 1, 1);
    }

    /** "if there are none: its TOLD words; if 0: its OWN words; if 0, of a BUTTON: .. if there are none: its HINT" */
    static void namesFallBackStepByStep() {
        for (int kind = GROUP; kind <= LIVE; kind++) {
            PagesForAll x = page(0, kind, 1, TEXT, 0, TEXT);
            x.set(3, OWN, 60);
            x.set(1, LABEL, 3);
            x.set(1, TOLD, 50);
            x.set(1, OWN, 40);
            x.set(2, OWN, 30);
            x.set(1, HINT, 20);
            dueName("LABELS of kind " + kind, x, 1, 60);
            x.set(1, LABEL, NONE);
            dueName("TOLD words of kind " + kind, x, 1, 50);
            x.set(1, TOLD, 0);
            dueName("OWN words of kind " + kind, x, 1, 40);
            x.set(1, OWN, 0);
            dueName("TEXTS in a BUTTON, else the HINT, of kind " + kind, x, 1, kind == BUTTON ? 30 : 20);
            x.set(2, OWN, 0);
            dueName("HINT of kind " + kind, x, 1, 20);
            x.set(1, HINT, 0);
            dueName("no NAME of kind " + kind, x, 1);
        }
    }

    /** "OWN words of SHOWN TEXTS that lie in it, IN ORDER": not its own HIDDEN-ness alone, also what is around it. */
    static void onlyShownTextsNameAButton() {
        PagesForAll x = page(0, GROUP, 1, BUTTON, 2, TEXT, 2, BUTTON, 4, TEXT);
        x.set(3, OWN, 3);
        x.set(5, OWN, 5);
        x.set(2, HINT, 9);
        dueName("a BUTTON in a BUTTON", x, 4, 5);
        dueName("with the TEXT of the inner one", x, 2, 3, 5);
        x.set(3, TOLD, 8);
        dueName("OWN words alone", x, 2, 3, 5);
        x.set(4, HIDDEN, 1);
        dueName("the inner one is HIDDEN", x, 2, 3);
        x.set(1, HIDDEN, 1);
        dueName("all is HIDDEN", x, 2, 9);
        dueName("the inner one has no NAME then", x, 4);
    }

    /** "SAID are, IN ORDER, SHOWN TEXTS with OWN words that lie in no BUTTON": at any depth. */
    static void textsInButtonsAreNotSaid() {
        PagesForAll x = page(0, BUTTON, 1, GROUP, 2, TEXT, 3, TEXT, 0, TEXT, 5, TEXT, 5, BUTTON);
        for (int p = 1; p <= 7; p++) {
            x.set(p, OWN, p);
        }
        dueSaid("TEXTS in no BUTTON", x, 1, 5, 6, 7);
        x.set(5, OWN, 0);
        x.set(5, TOLD, 1);
        x.set(5, HINT, 1);
        dueSaid("a TEXT with other words than OWN ones", x, 1, 6, 7);
        x.set(6, OWN, LEAST);
        dueSaid("a TEXT with words below 0", x, 1, 6, 7);
        x.set(5, HIDDEN, 1);
        dueSaid("in a HIDDEN TEXT", x, 1);
        x.set(1, HIDDEN, 1);
        dueSaid("none", x);
        for (int kind : new int[] {GROUP, FIELD, PICTURE, TRAP, LIVE}) {
            PagesForAll y = page(0, kind, 1, TEXT);
            y.set(2, OWN, 1);
            due("in kind " + kind, y.said(y.count(SAID_ONES) - 1), 2);
        }
    }

    /** "and all SHOWN BUTTONS, FIELDS, PICTURES": without a NAME, too, and those in BUTTONS. */
    static void buttonsFieldsPicturesAreSaidAnywhere() {
        PagesForAll x = page(0, BUTTON, 1, BUTTON, 1, FIELD, 1, PICTURE, 1, GROUP, 1, TRAP, 1, LIVE, 1, TEXT);
        dueSaid("in a BUTTON", x, 1, 2, 3, 4);
        x = fullPage(PICTURE);
        due("all but THE PAGE", x.count(SAID_ONES), 23);
        due("the last", x.said(22), 23);
        due("behind the last", x.said(23), NONE);
    }

    // ======== 2, keys

    /** "those with a PLACE by this (like ones IN ORDER), then all others IN ORDER": not by their numbers. */
    static void likePlacesAreInOrder() {
        PagesForAll x = page(0, GROUP, 0, FIELD, 1, BUTTON, 0, FIELD, 1, FIELD);
        dueStops("without PLACE", x, 3, 5, 2, 4);
        for (int p = 1; p <= 5; p++) {
            x.set(p, PLACE, 100);
        }
        dueStops("all 100", x, 3, 5, 2, 4);
        x.set(3, PLACE, 0);
        dueStops("the first without", x, 5, 2, 4, 3);
        x.set(2, PLACE, 0);
        dueStops("two without", x, 5, 4, 3, 2);
    }

    /** "STOPS are SHOWN BUTTONS and FIELDS": up to 23 of them. */
    static void allPartsMayBeStops() {
        PagesForAll x = fullPage(FIELD);
        for (int p = 1; p <= LAST_PART; p++) {
            x.set(p, PLACE, 100 - p);
        }
        due("all but THE PAGE", x.count(STOPS), 23);
        due("the first", x.stop(0), 23);
        due("the last", x.stop(22), 1);
        due("behind the last", x.stop(23), NONE);
        duePresses("around", x, NEXT, 23, BACK, 1, NEXT, 23, NEXT, 22);
    }

    /** "It is CAUGHT by the innermost SHOWN TRAP that it lies in (a TRAP is no STOP)." */
    static void caughtByTheInnermostTrap() {
        PagesForAll x = page(0, TRAP, 1, TRAP, 2, GROUP, 3, FIELD, 1, FIELD);
        x.set(1, PLACE, 1);
        x.set(2, PLACE, 1);
        dueStops("a TRAP is none", x, 4, 5);
        x.press(NEXT);
        due("the innermost", x.caught(), 2);
        x.leave();
        x.press(BACK);
        due("the outer one alone", x.caught(), 1);
        PagesForAll deep = deepPage(TRAP);
        due("without STOPS", deep.press(NEXT), NONE);
        due("none is CAUGHT", deep.caught(), NONE);
    }

    /** "FOCUS is CAUGHT by": by the 22nd of TRAPS in TRAPS, too. */
    static void caughtThroughManyTraps() {
        PagesForAll x = new PagesForAll();
        for (int p = 1; p < LAST_PART; p++) {
            x.part(p - 1, TRAP);
        }
        due("a FIELD in all of them", x.part(22, FIELD), 23);
        duePresses("the only STOP", x, NEXT, 23, NEXT, 23, BACK, 23);
        due("the innermost", x.caught(), 22);
        due("which keeps it", x.keeper(), 22);
        x.set(11, HIDDEN, 1);
        due("one of them is HIDDEN", x.caught(), NONE);
    }

    /** "to the first behind the last; from NONE .. to the first" */
    static void nextGoesAround() {
        duePresses("three", page(0, FIELD, 0, FIELD, 0, FIELD), NEXT, 1, NEXT, 2, NEXT, 3, NEXT, 1);
        duePresses("one", page(0, TEXT, 0, FIELD), NEXT, 2, NEXT, 2);
        PagesForAll x = page(0, FIELD, 0, FIELD, 0, FIELD);
        x.press(BACK);
        x.set(3, HIDDEN, 1);
        duePresses("from NONE, where the last was", x, NEXT, 1);
    }

    /** "BACK: likewise the other way round, to the last from NONE." */
    static void backGoesAround() {
        duePresses("three", page(0, FIELD, 0, FIELD, 0, FIELD), BACK, 3, BACK, 2, BACK, 1, BACK, 3);
        duePresses("one", page(0, TEXT, 0, FIELD), BACK, 2, BACK, 2);
    }

    /** "(of those that lie in the TRAP that it is CAUGHT by)": around within the TRAP, by PLACE as everywhere. */
    static void keysGoAroundInATrap() {
        PagesForAll x = page(0, FIELD, 0, TRAP, 2, FIELD, 2, GROUP, 4, FIELD, 2, TRAP, 6, FIELD, 0, FIELD);
        x.set(7, HIDDEN, 1);
        duePresses("next", x, NEXT, 1, NEXT, 3, NEXT, 5, NEXT, 3);
        duePresses("back", x, BACK, 5, BACK, 3);
        x.set(3, PLACE, 100);
        duePresses("by PLACE: 3 is ahead of 5, as of all", x, BACK, 5, NEXT, 3);
        x.set(5, PLACE, 99);
        duePresses("by PLACE: 5 is ahead of 3", x, BACK, 5, BACK, 3, NEXT, 5);
        x.set(7, HIDDEN, 0);
        duePresses("from the last to a TRAP within", x, BACK, 7, NEXT, 7, BACK, 7);
        due("which has it CAUGHT", x.caught(), 6);
        due("and keeps it", x.keeper(), 6);
    }

    /** "ENTER: if FOCUS is a BUTTON that OPENS a PART": else nothing is done. */
    static void enterElseDoesNothing() {
        PagesForAll x = page(0, FIELD, 0, BUTTON, 0, LIVE, 3, TEXT);
        x.set(1, OPENS, 4);
        x.set(3, OPENS, 4);
        long before = x.digest();
        due("from NONE", x.press(ENTER), NONE);
        due("nothing is done", x.digest(), before);
        x.press(NEXT);
        before = x.digest();
        due("a FIELD", x.press(ENTER), 1);
        due("nothing is done by it", x.digest(), before);
        x.press(NEXT);
        before = x.digest();
        due("a BUTTON that OPENS NONE", x.press(ENTER), 2);
        due("nothing is done by it, either", x.digest(), before);
        x.set(2, OPENS, 4);
        due("a BUTTON that OPENS a PART", x.press(ENTER), 2);
        due("it is HIDDEN", x.told(4, HIDDEN), 1);
        dueHeard("the LIVE speaks", x, 3);
    }

    /** "that is HIDDEN, if it was not, and the other way round": it, not whether it is SHOWN. */
    static void enterTurnsHiddenNotShown() {
        PagesForAll x = page(0, BUTTON, 0, GROUP, 2, GROUP);
        x.set(1, OPENS, 3);
        x.set(2, HIDDEN, 1);
        duePresses("to the BUTTON", x, NEXT, 1, ENTER, 1);
        due("not SHOWN, it becomes HIDDEN", x.told(3, HIDDEN), 1);
        x.press(ENTER);
        due("then not HIDDEN", x.told(3, HIDDEN), 0);
        due("but not SHOWN", x.told(3, SHOWN), 0);
    }

    /** "Whenever FOCUS is not SHOWN any more, it is NONE.": by set(), by ENTER, by itself and by what is around it. */
    static void focusThatIsNotShownIsNone() {
        int[] hidden = {1, 2, 3};
        for (int p : hidden) {
            PagesForAll x = page(0, GROUP, 1, TRAP, 2, BUTTON, 3, BUTTON);
            x.press(NEXT);
            due("FOCUS", x.focus(), 3);
            x.set(p, HIDDEN, 1);
            due("set() has hidden " + p, x.focus(), NONE);
            due("no TRAP", x.caught(), NONE);
            x.set(p, HIDDEN, 0);
            due("it does not come back", x.focus(), NONE);
            x.set(3, OPENS, p);
            duePresses("ENTER hides " + p, x, NEXT, 3, ENTER, NONE);
            due("no TRAP by ENTER", x.caught(), NONE);
        }
        PagesForAll y = page(0, BUTTON, 1, TEXT, 0, GROUP);
        y.set(1, OPENS, 2);
        duePresses("what lies in it is HIDDEN", y, NEXT, 1, ENTER, 1);
        y.set(3, HIDDEN, 1);
        due("what lies elsewhere is HIDDEN", y.focus(), 1);
    }

    /** "Without any STOP nothing is done by NEXT, BACK." */
    static void withoutStopsNothingIsDone() {
        PagesForAll[] pages = {new PagesForAll(), page(0, TRAP, 1, TEXT, 1, PICTURE, 1, LIVE), page(0, BUTTON, 0, FIELD)};
        pages[2].set(1, HIDDEN, 1);
        pages[2].set(2, HIDDEN, 1);
        for (PagesForAll x : pages) {
            long before = x.digest();
            duePresses("without STOPS", x, NEXT, NONE, BACK, NONE, NEXT, NONE);
            due("nothing is done", x.digest(), before);
            due("no STOP", x.stop(0), NONE);
        }
    }

    /** "the least number of KEYS pressed from how all is now until FOCUS is that PART": none, if it is. */
    static void walksMayHaveNoKeys() {
        PagesForAll x = page(0, BUTTON);
        due("from NONE", x.walk(1), 1);
        x.press(NEXT);
        due("it is FOCUS", x.walk(1), 0);
        x.set(1, HIDDEN, 1);
        due("it is not SHOWN", x.walk(1), NONE);
    }

    /** "the innermost LIVE that it lies in (not it itself)" */
    static void theInnermostLiveSpeaksNotItself() {
        PagesForAll x = page(0, LIVE, 1, GROUP, 2, LIVE, 3, TEXT, 0, TEXT);
        x.set(1, OWN, 1);
        x.set(1, HIDDEN, 1);
        x.set(1, HIDDEN, 0);
        x.set(0, OWN, 1);
        x.set(5, OWN, 1);
        dueHeard("a LIVE that lies in none, THE PAGE, a TEXT in none", x);
        x.set(3, OWN, 1);
        dueHeard("a LIVE in a LIVE", x, 1);
        x.set(4, OWN, 1);
        dueHeard("the innermost alone", x, 3);
    }

    /** "if that is SHOWN then": else none speaks, not even one around it. */
    static void aLiveThatIsNotShownIsSilent() {
        PagesForAll x = page(0, LIVE, 1, GROUP, 2, LIVE, 3, TEXT);
        x.set(2, HIDDEN, 1);
        dueHeard("what lies in 1", x, 1);
        x.set(4, OWN, 1);
        x.set(4, HIDDEN, 1);
        dueHeard("the innermost is not SHOWN", x);
        x.set(2, HIDDEN, 0);
        dueHeard("it was silent then, and is", x, 1);
        x.set(4, OWN, 2);
        dueHeard("a HIDDEN TEXT in a SHOWN LIVE", x, 3);
    }

    /** "if OWN words of a PART become others, or whether it is HIDDEN": what becomes the same does not speak. */
    static void onlyWhatBecomesAnotherIsSpoken() {
        PagesForAll x = page(0, LIVE, 1, BUTTON);
        x.set(2, OWN, 0);
        x.set(2, HIDDEN, 0);
        dueHeard("0 becomes 0", x);
        x.set(2, OWN, LEAST);
        x.hear();
        x.set(2, OWN, LEAST);
        dueHeard("the least int again", x);
        x.set(2, HIDDEN, 1);
        x.hear();
        x.set(2, HIDDEN, 1);
        dueHeard("HIDDEN again", x);
        for (int what : new int[] {TOLD, HINT, LABEL, SECOND_LABEL, PLACE, OPENS, WAIT, LONGER}) {
            x.set(2, what, 1);
        }
        x.box(2, 1, 1, 1, 1);
        x.colours(2, 1, 1);
        x.part(2, TEXT);
        dueHeard("all else", x);
        x.set(2, OWN, 0);
        dueHeard("words become none", x, 1);
    }

    /** "(by set(), or ENTER)": not by mend(), nor by what is refused. */
    static void mendingIsNotSpoken() {
        PagesForAll x = page(0, LIVE, 1, BUTTON);
        x.set(2, WAIT, 5);
        x.colours(2, 0, 0);
        due("NAMELESS is mended", x.mend(0), 2);
        due("PALE is mended", x.mend(0), 1);
        due("SHORT is mended", x.mend(0), 0);
        x.set(2, HIDDEN, 2);
        x.set(2, 10, 2);
        dueHeard("mended, refused", x);
    }

    /** "comes to THE SPOKEN, unless it is there already": then it keeps where it was; there may be 22 of them. */
    static void eachLiveIsSpokenOnce() {
        PagesForAll x = deepPage(LIVE);
        for (int p = 1; p <= LAST_PART; p++) {
            x.set(p, OWN, 1);
        }
        for (int p = LAST_PART; p >= 1; p--) {
            x.set(p, OWN, 2);
        }
        dueHeard("all that have a PART", x, 1, 2, 3, 4, 5, 6, 7, 8, 9, 10, 11, 12, 13, 14, 15, 16, 17, 18, 19, 20, 21, 22);
        for (int p = LAST_PART; p >= 1; p--) {
            x.set(p, OWN, 3);
        }
        due("as they came", x.hear(), 22);
        x.set(23, OWN, 4);
        dueHeard("one that went comes behind", x, 21, 20, 19, 18, 17, 16, 15, 14, 13, 12, 11, 10, 9, 8, 7, 6, 5, 4, 3, 2, 1,
            22);
    }

    /** "1000 times (the greater one and 127500) by (the lesser one and 127500), rounded down" */
    static void contrastIsRoundedDown() {
        PagesForAll x = new PagesForAll();
        due("the least", x.colours(0, 0, 0), 1000);
        due("the least of white", x.colours(0, WHITE, WHITE), 1000);
        due("the greatest", x.colours(0, 0, WHITE), 21000);
        due("the other way round", x.colours(0, WHITE, 0), 21000);
        due("4500 sharp", x.colours(0, 0x092f7e, 0), 4500);
        due("two thousandths below", x.colours(0, 0xa9063d, 0), 4499);
        due("3000 sharp", x.colours(0, 0, 0x0a1856), 3000);
        due("as little below", x.colours(0, 0, 0x69002c), 2999);
        due("one blue by nothing", x.colours(0, 1, 0), 1005);
        due("unlike colours of little unlike light", x.colours(0, WHITE, WHITE - 1), 1000);
    }

    // ======== 3, wrongs

    /** "WRONGS, in order of PARTS, of each by their sort": by their numbers. */
    static void wrongsAreInOrderOfParts() {
        PagesForAll x = page(0, GROUP, 0, FIELD, 1, FIELD);
        x.set(3, WAIT, 1);
        x.set(2, WAIT, 1);
        x.set(0, WAIT, 1);
        x.set(1, WAIT, 1);
        dueWrongs("3 is ahead of 2 IN ORDER", x, 0, SHORT, 1, SHORT, 2, NAMELESS, 2, SHORT, 3, NAMELESS, 3, SHORT);
    }

    /** As many WRONGS as there can be: all of 23 BUTTONS have four, the last (it is ahead of none) three, THE PAGE one. */
    static void asManyWrongsAsThereCanBe() {
        PagesForAll x = fullPage(BUTTON);
        for (int p = 1; p <= LAST_PART; p++) {
            x.set(p, WAIT, 19);
            x.colours(p, 0, 0);
            x.box(p, 0, 10 * (LAST_PART - p), 1, 10);
        }
        x.set(0, WAIT, 19);
        due("how many", x.wrongs(), 23 * 4);
        due("the first", x.wrong(0, 0), 0);
        due("its sort", x.wrong(0, 1), SHORT);
        due("the last", x.wrong(91, 0), 23);
        due("its sort", x.wrong(91, 1), SHORT);
        due("behind the last", x.wrong(92, 0), NONE);
        due("all pairs", x.pairs(), 253);
        due("behind the last to mend", x.mend(92), UNKNOWN);
        due("the last is mended", x.mend(91), 91);
    }

    /** "NAMELESS: a SHOWN BUTTON, FIELD, PICTURE without a NAME" */
    static void onlyThreeKindsAreNameless() {
        for (int kind = GROUP; kind <= LIVE; kind++) {
            PagesForAll x = page(0, kind);
            boolean needsName = kind == BUTTON || kind == FIELD || kind == PICTURE;
            due("kind " + kind, x.wrongs(), needsName ? 1 : 0);
            x.set(1, HIDDEN, 1);
            due("not SHOWN, kind " + kind, x.wrongs(), 0);
        }
    }

    /** "TWIN: a SHOWN BUTTON or FIELD with the NAME (it has one) of another such of a lesser number" */
    static void twinsOfLesserNumbers() {
        PagesForAll x = page(0, GROUP, 0, FIELD, 1, BUTTON, 0, FIELD);
        dueWrongs("without a NAME none is", x, 2, NAMELESS, 3, NAMELESS, 4, NAMELESS);
        for (int p = 0; p <= 4; p++) {
            x.set(p, HINT, 7);
        }
        dueWrongs("all but the first by number", x, 3, TWIN, 4, TWIN);
        x.set(2, HIDDEN, 1);
        dueWrongs("the first is not SHOWN", x, 4, TWIN);
        x.set(1, HIDDEN, 1);
        dueWrongs("nor the second", x);
    }

    /** "another such": PICTURES, TEXTS are none, and have none. */
    static void otherKindsAreNoTwins() {
        for (int kind = GROUP; kind <= LIVE; kind++) {
            PagesForAll x = page(0, kind, 0, BUTTON, 0, kind);
            for (int p = 1; p <= 3; p++) {
                x.set(p, OWN, 7);
            }
            if (kind == BUTTON || kind == FIELD) {
                dueWrongs("kind " + kind, x, 2, TWIN, 3, TWIN);
            } else {
                dueWrongs("kind " + kind, x);
            }
        }
    }

    /** "CONTRAST of a SHOWN TEXT below 4500" */
    static void textsArePaleBelow4500() {
        PagesForAll x = page(0, TEXT);
        x.colours(1, 0x092f7e, 0);
        dueWrongs("4500", x);
        x.colours(1, 0xa9063d, 0);
        dueWrongs("4499", x, 1, PALE);
        x.set(1, HIDDEN, 1);
        dueWrongs("not SHOWN", x);
    }

    /** "of a SHOWN BUTTON, FIELD below 3000": no other KIND is PALE. */
    static void stopsArePaleBelow3000() {
        for (int kind = GROUP; kind <= LIVE; kind++) {
            PagesForAll x = page(0, kind);
            x.set(1, OWN, 1);
            x.colours(1, 0x0a1856, 0);
            due("3000, kind " + kind, x.wrongs(), kind == TEXT ? 1 : 0);
            x.colours(1, 0x69002c, 0);
            due("2999, kind " + kind, x.wrongs(), kind == TEXT || kind == BUTTON || kind == FIELD ? 1 : 0);
            x.set(1, HIDDEN, 1);
            due("not SHOWN, kind " + kind, x.wrongs(), 0);
        }
    }

    /** "CLOSED: a SHOWN TRAP, STOPS lying in it": without any it is not. */
    static void trapsWithoutStopsAreNotClosed() {
        PagesForAll x = page(0, TRAP, 1, TEXT, 1, FIELD);
        x.set(3, OWN, 1);
        dueWrongs("a FIELD", x, 1, CLOSED);
        x.set(3, HIDDEN, 1);
        dueWrongs("a FIELD that is not SHOWN", x);
        x.set(3, HIDDEN, 0);
        x.set(1, HIDDEN, 1);
        dueWrongs("the TRAP is not SHOWN", x);
        dueWrongs("nothing in it", page(0, TRAP));
        PagesForAll y = page(0, LIVE, 1, FIELD);
        y.set(2, OWN, 1);
        dueWrongs("no TRAP", y);
    }

    /** "of which none is a BUTTON that OPENS it, or a PART that it lies in": of TRAPS in TRAPS each for itself. */
    static void aButtonOpensTheTrapOrWhatItLiesIn() {
        PagesForAll x = page(0, GROUP, 1, TRAP, 2, TRAP, 3, BUTTON, 2, BUTTON);
        x.set(4, OWN, 4);
        x.set(5, OWN, 5);
        dueWrongs("none", x, 2, CLOSED, 3, CLOSED);
        x.set(4, OPENS, 3);
        dueWrongs("the inner one alone", x, 2, CLOSED);
        x.set(4, OPENS, 2);
        dueWrongs("the outer one, in which the inner one lies", x);
        x.set(4, OPENS, 1);
        dueWrongs("what both lie in", x);
        x.set(4, OPENS, NONE);
        x.set(5, OPENS, 2);
        dueWrongs("from the outer one", x, 3, CLOSED);
        x.set(5, OPENS, 3);
        dueWrongs("the inner one from the outer one", x, 2, CLOSED, 3, CLOSED);
        x.set(4, OPENS, 4);
        dueWrongs("itself", x, 2, CLOSED, 3, CLOSED);
        due("a FIELD in the inner one", x.part(3, FIELD), 6);
        x.set(6, OWN, 6);
        x.set(6, OPENS, 2);
        dueWrongs("by a FIELD", x, 2, CLOSED, 3, CLOSED);
    }

    /** "both having width and height above 0" */
    static void astrayOnesHaveWidthAndHeight() {
        int[] boxes = {0, 5, 1, 1, 0, 0, 1, 1};
        dueWrongs("1 each", twoPictures(boxes), 1, ASTRAY);
        for (int i : new int[] {2, 3, 6, 7}) {
            int[] flat = boxes.clone();
            flat[i] = 0;
            dueWrongs("0 at " + i, twoPictures(flat));
        }
    }

    /** "wholly above it (y and height of that one together are at most y of this one)" */
    static void whollyAboveUpToTheEdge() {
        dueWrongs("at the edge", twoPictures(0, 10000, 1, 1, 0, 0, 1, 10000), 1, ASTRAY);
        dueWrongs("one beyond", twoPictures(0, 10000, 1, 1, 0, 1, 1, 10000));
        dueWrongs("one beyond, one less high", twoPictures(0, 10000, 1, 1, 0, 1, 1, 9999), 1, ASTRAY);
        dueWrongs("the most of all", twoPictures(0, 10000, 10000, 10000, 0, 10000, 10000, 10000));
        dueWrongs("far above", twoPictures(0, 10000, 1, 1, 0, 0, 1, 1), 1, ASTRAY);
        dueWrongs("above, at the other side", twoPictures(0, 10, 1, 1, 10000, 9, 1, 1), 1, ASTRAY);
    }

    /** "or wholly to the left (likewise by x and width)" */
    static void whollyLeftUpToTheEdge() {
        dueWrongs("at the edge", twoPictures(10000, 0, 1, 1, 0, 0, 10000, 1), 1, ASTRAY);
        dueWrongs("one beyond", twoPictures(10000, 0, 1, 1, 1, 0, 10000, 1));
        dueWrongs("one beyond, one less wide", twoPictures(10000, 0, 1, 1, 1, 0, 9999, 1), 1, ASTRAY);
        dueWrongs("far to the left", twoPictures(10000, 0, 1, 1, 0, 0, 1, 1), 1, ASTRAY);
        dueWrongs("to the right", twoPictures(0, 0, 1, 1, 1, 0, 1, 1));
    }

    /** "while neither stands wholly above the other" */
    static void leftOnlyWhereNeitherIsAbove() {
        dueWrongs("the one ahead is above", twoPictures(5, 0, 5, 5, 0, 5, 5, 5));
        dueWrongs("it reaches one into the other", twoPictures(5, 0, 5, 6, 0, 5, 5, 5), 1, ASTRAY);
        dueWrongs("the other one is above, too", twoPictures(5, 5, 5, 5, 0, 0, 5, 5), 1, ASTRAY);
    }

    /** "one that is SAID ahead of another one": what is not SAID is neither; the later one is not ASTRAY. */
    static void onlySaidOnesAreAstray() {
        PagesForAll x = page(0, TEXT, 0, TEXT, 0, GROUP, 0, BUTTON, 4, TEXT);
        for (int p = 1; p <= 5; p++) {
            x.box(p, 0, 100 - 10 * p, 1, 1);
        }
        x.set(4, OWN, 1);
        x.set(5, OWN, 1);
        dueWrongs("TEXTS without words, a GROUP, a TEXT in a BUTTON", x);
        x.set(1, OWN, 1);
        dueWrongs("one ahead of the BUTTON", x, 1, ASTRAY);
        x.set(2, OWN, 1);
        dueWrongs("two ahead of it", x, 1, ASTRAY, 2, ASTRAY);
        due("three pairs", x.pairs(), 3);
        x.set(4, HIDDEN, 1);
        dueWrongs("it is not SHOWN", x, 1, ASTRAY);
    }

    /** "of each by their sort": a sort comes once of a PART, however many others make it so. */
    static void eachSortComesOnceOfAPart() {
        PagesForAll x = page(0, FIELD, 0, FIELD, 0, FIELD, 0, FIELD);
        for (int p = 1; p <= 4; p++) {
            x.set(p, OWN, 7);
            x.box(p, 0, 100 - 10 * p, 10, 10);
        }
        dueWrongs("TWINS of several, ASTRAY to several", x, 1, ASTRAY, 2, TWIN, 2, ASTRAY, 3, TWIN, 3, ASTRAY, 4, TWIN);
        due("all pairs", x.pairs(), 6);
    }

    /** "SHORT: SHOWN, a WAIT from 1 to 19, not LONGER": of any KIND. */
    static void waitsAreShortFrom1To19() {
        for (int kind = GROUP; kind <= LIVE; kind++) {
            PagesForAll x = page(0, kind);
            x.set(1, OWN, 1);
            int[] waits = {0, 1, 19, 20, 1000};
            int[] want = {0, 1, 1, 0, 0};
            for (int i = 0; i < waits.length; i++) {
                x.set(1, WAIT, waits[i]);
                due("WAIT " + waits[i] + ", kind " + kind, x.wrongs(), want[i]);
            }
            x.set(1, WAIT, 19);
            x.set(1, LONGER, 1);
            dueWrongs("LONGER", x);
            x.set(1, LONGER, 0);
            dueWrongs("not LONGER", x, 1, SHORT);
            x.set(1, HIDDEN, 1);
            dueWrongs("not SHOWN", x);
        }
    }

    public static void main(String[] args) throws IllegalAccessException {
        runAll(TermsTest.class);
        end();
    }
}
