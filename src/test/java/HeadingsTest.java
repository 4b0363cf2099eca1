/** Each sentence under a promise's own heading that names a boundary case (it is quoted) has a test of its own here. */
public final class HeadingsTest extends Checks {
    private static final int[] NO_INDEX = {LEAST, -2, -1, 24, 1000, MOST};

    /** Promise 1: "THE PAGE alone": nothing else is there to be asked for. */
    static void aNewObjectHasThePageAlone() {
        PagesForAll x = new PagesForAll();
        int[] counts = {1, 1, 0, 0, 0, 0};
        for (int what = PARTS; what <= OPENED; what++) {
            due("count " + what, x.count(what), counts[what]);
        }
        due("said", x.said(0), NONE);
        due("stop", x.stop(0), NONE);
        due("pairs", x.pairs(), 0);
        due("name", x.name(0), 0);
        due("word", x.word(0, 0), 0);
        due("focus", x.focus(), NONE);
        due("caught", x.caught(), NONE);
        due("keeper", x.keeper(), NONE);
        due("walk", x.walk(0), NONE);
        due("key", x.key(0), NONE);
        due("hear", x.hear(), NONE);
        due("wrong", x.wrong(0, 0), NONE);
        due("mend", x.mend(0), UNKNOWN);
        due("leave", x.leave(), NONE);
        due("a first PART", x.part(0, GROUP), 1);
    }

    /** Promise 1: an object has nothing of another one. */
    static void objectsAreApart() {
        PagesForAll x = page(0, LIVE, 1, BUTTON);
        x.set(2, OWN, 5);
        x.press(NEXT);
        PagesForAll y = new PagesForAll();
        due("PARTS", y.count(PARTS), 1);
        due("FOCUS", y.focus(), NONE);
        due("THE SPOKEN", y.hear(), NONE);
        y.part(0, FIELD);
        due("KIND of the one", x.told(1, KIND), LIVE);
        due("KIND of the other", y.told(1, KIND), FIELD);
        due("THE SPOKEN of the one", x.hear(), 1);
    }

    /** Promise 2: "A PART in a PARENT: its number.": the least and the greatest PARENT, KIND and number. */
    static void partFromFirstToLast() {
        PagesForAll x = new PagesForAll();
        due("the first", x.part(0, LIVE), 1);
        for (int p = 2; p < LAST_PART; p++) {
            due("in the last so far", x.part(p - 1, GROUP), p);
        }
        due("the last", x.part(22, LIVE), 23);
        due("its PARENT", x.told(23, PARENT), 22);
        due("its KIND", x.told(23, KIND), LIVE);
    }

    /** Promise 3: "0 OWN words, 1 TOLD words, 2 HINT (any ints)" */
    static void setAnyInts() {
        PagesForAll x = page(0, TEXT);
        int[] values = {LEAST, FULL, NONE, 0, 1, MOST};
        for (int what = OWN; what <= HINT; what++) {
            int was = 0;
            for (int v : values) {
                due("what it was", x.set(1, what, v), was);
                due("what it is", x.told(1, what), v);
                was = v;
            }
        }
    }

    /** Promise 3: "3, 4 LABELS (PARTS, or NONE)" */
    static void setLabelsUpToTheLastPart() {
        PagesForAll x = page(0, TEXT, 0, TEXT);
        for (int what = LABEL; what <= SECOND_LABEL; what++) {
            due("NONE again", x.set(1, what, NONE), NONE);
            due("THE PAGE", x.set(1, what, 0), NONE);
            due("the last", x.set(1, what, 2), 0);
            due("behind the last", x.set(1, what, 3), OUTSIDE);
            due("below NONE", x.set(1, what, -2), OUTSIDE);
            due("it stays", x.told(1, what), 2);
        }
        due("one more", x.part(0, TEXT), 3);
        due("that one", x.set(1, LABEL, 3), 2);
    }

    /** Promise 3: "7 the PART that it OPENS (not THE PAGE; or NONE)" */
    static void setOpensNotThePage() {
        PagesForAll x = page(0, TEXT, 0, TEXT);
        due("NONE again", x.set(1, OPENS, NONE), NONE);
        due("THE PAGE", x.set(1, OPENS, 0), OUTSIDE);
        due("behind the last", x.set(1, OPENS, 3), OUTSIDE);
        due("below NONE", x.set(1, OPENS, -2), OUTSIDE);
        due("nothing is OPENED", x.count(OPENED), 0);
        due("itself", x.set(1, OPENS, 1), NONE);
        due("the last", x.set(1, OPENS, 2), 1);
        due("NONE", x.set(1, OPENS, NONE), 2);
        due("of THE PAGE", x.set(0, OPENS, 2), NONE);
        due("one is OPENED", x.count(OPENED), 1);
    }

    /** Promise 3: "5 HIDDEN, 9 LONGER (0, 1), 6 PLACE, 8 WAIT": from 0 to their most, and no further. */
    static void setFromZeroToTheMost() {
        int[] whats = {HIDDEN, LONGER, PLACE, WAIT};
        int[] mosts = {1, 1, 100, 1000};
        for (int i = 0; i < whats.length; i++) {
            PagesForAll x = page(0, FIELD);
            due("the most of " + whats[i], x.set(1, whats[i], mosts[i]), 0);
            for (int v : new int[] {LEAST, -1, mosts[i] + 1, MOST}) {
                due("what " + whats[i] + ", " + v, x.set(1, whats[i], v), OUTSIDE);
            }
            due("the most again", x.set(1, whats[i], mosts[i]), mosts[i]);
            due("the least", x.set(1, whats[i], 0), mosts[i]);
        }
    }

    /** Promise 3: "STATE: p is THE PAGE, and what is 5": whatever v is allowed; all else of THE PAGE can be set. */
    static void thePageIsNeverHidden() {
        PagesForAll x = page(0, BUTTON);
        x.press(NEXT);
        due("HIDDEN", x.set(0, HIDDEN, 1), STATE);
        due("not HIDDEN", x.set(0, HIDDEN, 0), STATE);
        due("FOCUS stays", x.focus(), 1);
        due("all are SHOWN", x.count(SHOWN_ONES), 2);
        int[] values = {1, 1, 1, 1, 1, 0, 1, 1, 1, 1};
        int[] were = {0, 0, 0, NONE, NONE, STATE, 0, NONE, 0, 0};
        for (int what = OWN; what <= LONGER; what++) {
            due("what " + what, x.set(0, what, values[what]), were[what]);
        }
        due("another one is HIDDEN", x.set(1, HIDDEN, 1), 0);
    }

    /** A page of 23 TEXTS of which 1 to 6 OPEN 11 to 16. */
    private static PagesForAll sixOpened() {
        PagesForAll x = fullPage(TEXT);
        for (int p = 1; p <= 6; p++) {
            due("OPENS", x.set(p, OPENS, 10 + p), NONE);
        }
        due("six are OPENED", x.count(OPENED), 6);
        return x;
    }

    /** Promise 3: "FULL: what is 7, and six unlike PARTS are OPENED by others" */
    static void aSeventhOpenedPartIsTooMany() {
        PagesForAll x = sixOpened();
        due("a seventh", x.set(7, OPENS, 17), FULL);
        due("by THE PAGE", x.set(0, OPENS, 17), FULL);
        due("itself", x.set(7, OPENS, 7), FULL);
        due("six still", x.count(OPENED), 6);
        due("what is not 7", x.set(7, LABEL, 17), NONE);
        x.set(6, OPENS, NONE);
        due("five then", x.count(OPENED), 5);
        due("a sixth", x.set(7, OPENS, 17), NONE);
        due("six again", x.count(OPENED), 6);
        due("again a seventh", x.set(6, OPENS, 16), FULL);
    }

    /** Promise 3: "six unlike PARTS": those that are OPENED by several are one. */
    static void likeOpenedPartsAreOne() {
        PagesForAll x = sixOpened();
        for (int p = 7; p <= 10; p++) {
            due("one of the six", x.set(p, OPENS, 16), NONE);
        }
        due("six", x.count(OPENED), 6);
        due("1 OPENS what 2 does", x.set(1, OPENS, 12), 11);
        due("five", x.count(OPENED), 5);
        due("a sixth", x.set(20, OPENS, 21), NONE);
        due("a seventh", x.set(22, OPENS, 11), FULL);
    }

    /** Promise 3: "by others": what p alone OPENS does not count, for it is given up. */
    static void whatOnePartAloneOpensMayBecomeAnother() {
        PagesForAll x = sixOpened();
        due("the sixth becomes another", x.set(6, OPENS, 17), 16);
        due("and another", x.set(6, OPENS, 6), 17);
        due("six", x.count(OPENED), 6);
        due("6 is OPENED by 7, too", x.set(7, OPENS, 6), NONE);
        due("now all six are OPENED by others than 6", x.set(6, OPENS, 17), FULL);
        due("and by others than 7", x.set(7, OPENS, 17), FULL);
    }

    /** Promise 3: "v being none of them, nor NONE" */
    static void oneOfTheSixOrNoneIsNotTooMany() {
        PagesForAll x = sixOpened();
        for (int v = 11; v <= 16; v++) {
            due("one of the six", x.set(7, OPENS, v), v == 11 ? NONE : v - 1);
        }
        due("NONE", x.set(7, OPENS, NONE), 16);
        due("NONE again", x.set(7, OPENS, NONE), NONE);
        due("six", x.count(OPENED), 6);
    }

    /** Promise 4: "11 PARENT (NONE)", and from the first to the last what there is. */
    static void toldFromFirstToLast() {
        PagesForAll x = deepPage(FIELD);
        due("PARENT of THE PAGE", x.told(0, PARENT), NONE);
        due("PARENT of the first", x.told(1, PARENT), 0);
        due("PARENT of the last", x.told(23, PARENT), 22);
        due("the first what", x.told(23, 0), 0);
        due("the last what", x.told(23, 18), 1);
        due("below the first", x.told(23, -1), OUTSIDE);
        due("behind the last", x.told(23, 19), OUTSIDE);
        due("behind the last PART", x.told(24, 0), UNKNOWN);
    }

    /** Promise 4: answers that look like refusals are told as they are. */
    static void toldWordsMayLookLikeRefusals() {
        PagesForAll x = page(0, TEXT);
        for (int words : new int[] {UNKNOWN, OUTSIDE, STATE, FULL, NONE}) {
            x.set(1, OWN, words);
            due("told", x.told(1, OWN), words);
            due("word", x.word(1, 0), words);
            due("what it was", x.set(1, OWN, 0), words);
        }
    }

    /** Promise 5: "A BOX, 0 to 10000 each: 1." */
    static void boxFromZeroToTheMost() {
        PagesForAll x = page(0, TEXT);
        int[][] boxes = {{10000, 10000, 10000, 10000}, {0, 0, 0, 0}, {10000, 0, 10000, 0}, {0, 10000, 0, 10000}};
        for (int[] box : boxes) {
            due("box", x.box(1, box[0], box[1], box[2], box[3]), 1);
            for (int i = 0; i < 4; i++) {
                due("told " + i, x.told(1, X + i), box[i]);
            }
            for (int i = 0; i < 4; i++) {
                int[] wrong = box.clone();
                wrong[i] = box[i] == 0 ? -1 : 10001;
                due("beyond at " + i, x.box(1, wrong[0], wrong[1], wrong[2], wrong[3]), OUTSIDE);
                due("it stays", x.told(1, X + i), box[i]);
            }
        }
    }

    /** Promise 6: "INK, GROUND (0 to 16777215)" */
    static void coloursFromZeroToTheMost() {
        PagesForAll x = page(0, TEXT);
        due("the least", x.colours(1, 0, 0), 1000);
        due("the most", x.colours(1, WHITE, WHITE), 1000);
        due("the most ink", x.colours(1, WHITE, 0), 21000);
        for (int v : new int[] {LEAST, -1, WHITE + 1, MOST}) {
            due("ink", x.colours(1, v, 5), OUTSIDE);
            due("ground", x.colours(1, 5, v), OUTSIDE);
            due("both", x.colours(1, v, v), OUTSIDE);
        }
        due("ink stays", x.told(1, INK), WHITE);
        due("ground stays", x.told(1, GROUND), 0);
    }

    /** Promise 6: ": CONTRAST" is of "red, green, blue: 65536, 256, 1 times 0 to 255", each by its own weight. */
    static void coloursByTheirWeights() {
        PagesForAll x = page(0, TEXT);
        due("most red", x.colours(1, 0xff0000, 0), 5252);
        due("most green", x.colours(1, 0x00ff00, 0), 15304);
        due("most blue", x.colours(1, 0x0000ff, 0), 2444);
        due("one red", x.colours(1, 0x010000, 0), 1016);
        due("one green", x.colours(1, 0x000100, 0), 1056);
        due("one blue", x.colours(1, 0x000001, 0), 1005);
    }

    /** Promise 7: "CONTRAST": of any PART, also THE PAGE and what is not SHOWN; the same as colours() answers. */
    static void contrastOfAnyPart() {
        PagesForAll x = deepPage(GROUP);
        due("colours", x.colours(23, 0x0a29c5, WHITE), 4582);
        x.set(1, HIDDEN, 1);
        due("contrast", x.contrast(23), 4582);
        due("of another", x.contrast(22), 21000);
        x.colours(0, 7, 7);
        due("of THE PAGE", x.contrast(0), 1000);
        due("behind the last", x.contrast(24), UNKNOWN);
        due("below the first", x.contrast(-1), UNKNOWN);
    }

    /** Promise 8: "How many ints THE NAME has.": from none to eight, also of what is not SHOWN. */
    static void nameFromNoneToEight() {
        PagesForAll x = page(0, BUTTON);
        for (int i = 1; i <= 12; i++) {
            due("so many", x.name(1), Math.min(i - 1, 8));
            x.set(x.part(1, TEXT), OWN, i);
        }
        x.set(1, HIDDEN, 1);
        due("its TEXTS are not SHOWN", x.name(1), 0);
        x.set(1, HINT, 1);
        due("but it has a HINT", x.name(1), 1);
        due("behind the last", x.name(14), UNKNOWN);
        due("below the first", x.name(-1), UNKNOWN);
    }

    /** Promise 9: "0 also: there is none": no such int, no NAME, no such PART. */
    static void wordThatIsNotThere() {
        PagesForAll x = page(0, BUTTON, 1, TEXT, 1, TEXT);
        due("no NAME", x.word(1, 0), 0);
        x.set(2, OWN, -5);
        x.set(3, OWN, -6);
        due("the first", x.word(1, 0), -5);
        due("the last", x.word(1, 1), -6);
        due("behind the last", x.word(1, 2), 0);
        for (int k : NO_INDEX) {
            due("word " + k, x.word(1, k), 0);
        }
        for (int p : new int[] {LEAST, -1, 4, 24, MOST}) {
            due("of the PART " + p, x.word(p, 0), 0);
            due("of the PART " + p + " nothing", x.word(p, -1), 0);
        }
    }

    /** Promise 9: the words of one PART are not those of the PART that was asked for before. */
    static void wordsOfOnePartThenAnother() {
        PagesForAll x = page(0, BUTTON, 1, TEXT, 1, TEXT, 0, FIELD);
        x.set(2, OWN, 5);
        x.set(3, OWN, 6);
        due("two words", x.name(1), 2);
        due("no word", x.word(4, 0), 0);
        x.set(4, HINT, 7);
        due("one word", x.word(4, 0), 7);
        due("no second one", x.word(4, 1), 0);
        due("the second one", x.word(1, 1), 6);
    }

    /** Promise 10: "The k-th PART that is SAID; NONE." */
    static void saidThatIsNotThere() {
        PagesForAll x = page(0, PICTURE, 0, PICTURE);
        due("the first", x.said(0), 1);
        due("the last", x.said(1), 2);
        due("behind the last", x.said(2), NONE);
        for (int k : NO_INDEX) {
            due("said " + k, x.said(k), NONE);
        }
        x.set(1, HIDDEN, 1);
        due("the other one is the first", x.said(0), 2);
        due("and the last", x.said(1), NONE);
    }

    /** Promise 11: "How many pairs of SAID ones are ASTRAY, the one ahead of the other": none, one, all. */
    static void pairsFromNoneToAll() {
        PagesForAll x = fullPage(PICTURE);
        due("no BOXES", x.pairs(), 0);
        for (int p = 1; p <= LAST_PART; p++) {
            x.box(p, 0, p, 1, 1);
        }
        due("all as they are SAID", x.pairs(), 0);
        x.box(23, 0, 22, 1, 1);
        due("two side by side, none to the left", x.pairs(), 0);
        x.box(22, 1, 22, 1, 1);
        due("the last one is to the left", x.pairs(), 1);
        for (int p = 1; p <= LAST_PART; p++) {
            x.box(p, 0, 23 - p, 1, 1);
        }
        due("all upside down", x.pairs(), 253);
    }

    /** Promise 12: "The k-th of all STOPS; NONE.": of all, also where FOCUS is CAUGHT. */
    static void stopThatIsNotThere() {
        PagesForAll x = page(0, TRAP, 1, FIELD, 0, FIELD);
        x.press(NEXT);
        due("CAUGHT", x.caught(), 1);
        due("the first", x.stop(0), 2);
        due("the last, outside of the TRAP", x.stop(1), 3);
        due("behind the last", x.stop(2), NONE);
        for (int k : NO_INDEX) {
            due("stop " + k, x.stop(k), NONE);
        }
        x.set(2, HIDDEN, 1);
        due("the other one is the first", x.stop(0), 3);
        due("and the last", x.stop(1), NONE);
    }

    /** Promise 13: "A KEY is pressed: FOCUS then. OUTSIDE." */
    static void pressNoKey() {
        PagesForAll x = page(0, BUTTON, 0, BUTTON);
        x.set(1, OPENS, 2);
        x.press(NEXT);
        for (int key : new int[] {LEAST, -1, 3, MOST}) {
            due("key " + key, x.press(key), OUTSIDE);
            due("FOCUS stays", x.focus(), 1);
            due("nothing is HIDDEN", x.count(SHOWN_ONES), 3);
        }
        due("the last KEY", x.press(ENTER), 1);
        due("does something", x.count(SHOWN_ONES), 2);
    }

    /** Promise 14: "FOCUS": asking changes nothing. */
    static void focusStaysWhenAsked() {
        PagesForAll x = page(0, FIELD);
        due("NONE", x.focus(), NONE);
        due("NONE still", x.focus(), NONE);
        x.press(NEXT);
        due("the FIELD", x.focus(), 1);
        due("the FIELD still", x.focus(), 1);
    }

    /** Promise 15: "The TRAP that FOCUS is CAUGHT by; NONE." */
    static void caughtByNone() {
        PagesForAll x = page(0, TRAP, 1, FIELD, 0, GROUP, 3, LIVE, 4, FIELD);
        due("FOCUS is NONE", x.caught(), NONE);
        x.press(BACK);
        due("in a GROUP and a LIVE", x.caught(), NONE);
        x.press(BACK);
        due("in a TRAP", x.caught(), 1);
        x.set(1, HIDDEN, 1);
        due("it is HIDDEN", x.caught(), NONE);
    }

    /** Promise 16: "FOCUS becomes NONE: what it was.": out of a TRAP, too, and from NONE. */
    static void leaveFromNoneAndFromTraps() {
        PagesForAll x = page(0, TRAP, 1, FIELD, 0, FIELD);
        due("from NONE", x.leave(), NONE);
        x.press(NEXT);
        due("kept", x.keeper(), 1);
        due("from the TRAP", x.leave(), 2);
        due("NONE then", x.focus(), NONE);
        due("again", x.leave(), NONE);
        due("and elsewhere", x.press(BACK), 3);
    }

    /** Promise 17: "NONE: there is none.": to what is no STOP, what stays HIDDEN, what lies outside of a TRAP. */
    static void walksThatThereAreNot() {
        for (int kind : new int[] {GROUP, TEXT, PICTURE, TRAP, LIVE}) {
            PagesForAll x = page(0, kind, 0, FIELD);
            due("to kind " + kind, x.walk(1), NONE);
            due("to THE PAGE", x.walk(0), NONE);
        }
        PagesForAll y = page(0, BUTTON, 0, GROUP, 2, GROUP, 3, FIELD, 0, TRAP, 5, FIELD);
        y.set(3, HIDDEN, 1);
        y.set(2, HIDDEN, 1);
        y.set(1, OPENS, 3);
        due("one of two that are HIDDEN stays so", y.walk(4), NONE);
        y.set(2, HIDDEN, 0);
        due("the other one is OPENED", y.walk(4), 3);
        y.press(BACK);
        due("kept in a TRAP", y.walk(4), NONE);
        due("kept in a TRAP, to the BUTTON", y.walk(1), NONE);
    }

    /** Promise 17: "How many KEYS THE WALK to a PART has": the most, through STOPS and through six doors. */
    static void theLongestWalks() {
        PagesForAll x = fullPage(FIELD);
        due("the middle from NONE, by NEXT", x.walk(12), 12);
        due("the middle from NONE, by BACK", x.walk(13), 11);
        x.press(NEXT);
        due("half around by NEXT", x.walk(12), 11);
        due("half around by BACK", x.walk(13), 11);
        PagesForAll y = new PagesForAll();
        for (int door = 0; door < 6; door++) {
            int button = y.part(3 * door, BUTTON);
            y.part(3 * door, TEXT);
            int group = y.part(3 * door, TRAP);
            y.set(button, OPENS, group);
            y.set(group, HIDDEN, 1);
        }
        y.part(18, FIELD);
        due("six are OPENED", y.count(OPENED), 6);
        due("six doors in one another, each with NEXT and ENTER", y.walk(19), 13);
        due("its first KEY", y.key(19), NEXT);
        due("the last BUTTON", y.walk(16), 11);
        due("nothing is SHOWN by it", y.told(19, SHOWN), 0);
    }

    /** Promise 17: a WALK may lead over NONE, where ENTER hides what FOCUS lies in. */
    static void walksOverNone() {
        PagesForAll x = page(0, TRAP, 1, BUTTON, 0, FIELD, 0, FIELD, 0, FIELD);
        x.set(2, OPENS, 1);
        x.press(NEXT);
        due("CAUGHT", x.caught(), 1);
        due("ENTER, NEXT", x.walk(3), 2);
        due("ENTER, NEXT, NEXT", x.walk(4), 3);
        due("ENTER, BACK", x.walk(5), 2);
        due("not kept", x.keeper(), NONE);
        duePresses("it is so", x, ENTER, NONE, BACK, 5);
        due("the BUTTON does not come back", x.walk(2), NONE);
    }

    /** Promise 17: "Nothing is changed.", not by key() or keeper(), either. */
    static void walksChangeNothing() {
        PagesForAll x = page(0, LIVE, 1, TRAP, 2, BUTTON, 1, BUTTON, 0, FIELD);
        x.set(3, OPENS, 2);
        x.set(4, OPENS, 2);
        x.press(NEXT);
        x.set(4, OWN, 3);
        long before = x.digest();
        for (int p = 0; p <= 5; p++) {
            x.walk(p);
            x.key(p);
            x.keeper();
            due("digest", x.digest(), before);
            due("FOCUS", x.focus(), 3);
            due("THE SPOKEN", x.count(SPOKEN), 1);
            due("SHOWN", x.count(SHOWN_ONES), 6);
        }
    }

    /** Promise 18: "of all such WALKS the least KEY" */
    static void theLeastKeyOfLikeWalks() {
        PagesForAll one = page(0, FIELD);
        due("NEXT or BACK from NONE", one.key(1), NEXT);
        PagesForAll x = page(0, BUTTON, 0, FIELD, 0, BUTTON, 0, GROUP, 4, FIELD, 4, FIELD);
        x.set(1, OPENS, 4);
        x.set(3, OPENS, 4);
        x.set(4, HIDDEN, 1);
        x.press(NEXT);
        due("ENTER, BACK, BACK or BACK, ENTER, NEXT", x.walk(5), 3);
        due("the lesser is BACK", x.key(5), BACK);
        due("ENTER, BACK alone", x.key(6), ENTER);
        x.set(2, HIDDEN, 1);
        due("NEXT, ENTER, NEXT, too", x.walk(5), 3);
        due("the least is NEXT", x.key(5), NEXT);
        due("a STOP on both sides", x.key(3), NEXT);
    }

    /** Promise 18: "NONE: there is none, or it has none." */
    static void walksWithoutAFirstKey() {
        PagesForAll x = page(0, FIELD, 0, TEXT);
        due("there is none", x.key(2), NONE);
        due("to THE PAGE", x.key(0), NONE);
        due("it has one", x.key(1), NEXT);
        x.press(NEXT);
        due("it has none", x.key(1), NONE);
        due("no such PART", x.key(3), UNKNOWN);
        due("NONE is no PART", x.key(NONE), UNKNOWN);
    }

    /** Promise 19: "if no PART outside of it can come to be FOCUS by any KEYS" */
    static void keptInATrap() {
        PagesForAll x = page(0, TRAP, 1, BUTTON, 0, GROUP, 3, FIELD);
        x.set(3, HIDDEN, 1);
        x.press(NEXT);
        due("nothing is OPENED", x.keeper(), 1);
        x.set(2, OPENS, 3);
        due("what lies outside is OPENED, but FOCUS stays in", x.keeper(), 1);
        x.set(2, OPENS, 1);
        due("the TRAP is HIDDEN, but no STOP is outside", x.keeper(), 1);
        x.set(3, HIDDEN, 0);
        due("one is", x.keeper(), NONE);
        x.set(2, OPENS, 2);
        due("the BUTTON hides itself, FOCUS is free", x.keeper(), NONE);
        x.set(2, OPENS, NONE);
        due("kept again", x.keeper(), 1);
    }

    /** Promise 19: a BUTTON that comes to be SHOWN only by another one can lead out. */
    static void keptUntilADoorIsOpened() {
        PagesForAll x = page(0, TRAP, 1, BUTTON, 1, GROUP, 3, BUTTON, 0, FIELD);
        x.set(3, HIDDEN, 1);
        x.set(4, OPENS, 1);
        x.press(NEXT);
        due("the way out is HIDDEN", x.keeper(), 1);
        x.set(2, OPENS, 3);
        due("it can be OPENED", x.keeper(), NONE);
        due("ENTER, NEXT, ENTER, NEXT", x.walk(5), 4);
    }

    /** Promise 19: "NONE: one can, or there is no such TRAP." */
    static void keptByNone() {
        PagesForAll x = page(0, TRAP, 1, FIELD, 0, FIELD);
        due("FOCUS is NONE", x.keeper(), NONE);
        x.press(BACK);
        due("in no TRAP", x.keeper(), NONE);
        due("it can come into one", x.walk(2), 1);
    }

    /** Promise 19: "no PART outside of it": for a TRAP in a TRAP the outer one's STOPS are outside. */
    static void keptByTheInnerTrap() {
        PagesForAll x = page(0, TRAP, 1, FIELD, 1, TRAP, 3, BUTTON);
        x.set(4, OPENS, 3);
        x.press(BACK);
        due("in the inner one", x.caught(), 3);
        due("the outer one's FIELD is outside", x.keeper(), NONE);
        x.set(4, OPENS, NONE);
        due("kept", x.keeper(), 3);
        x.set(4, HIDDEN, 1);
        x.press(NEXT);
        due("the outer one keeps", x.keeper(), 1);
    }

    /** Promise 20: "The first of THE SPOKEN, that goes: a LIVE; NONE." */
    static void hearUntilNone() {
        PagesForAll x = page(0, LIVE, 1, TEXT, 0, LIVE, 3, TEXT);
        due("none yet", x.hear(), NONE);
        x.set(4, OWN, 1);
        x.set(2, OWN, 1);
        due("two", x.count(SPOKEN), 2);
        due("the first that came", x.hear(), 3);
        due("it goes", x.count(SPOKEN), 1);
        due("the second", x.hear(), 1);
        due("none", x.hear(), NONE);
        due("none is there", x.count(SPOKEN), 0);
        due("none again", x.hear(), NONE);
    }

    /** Promise 20: a LIVE that has come stays, though it is HIDDEN behind that. */
    static void whatHasComeIsHeard() {
        PagesForAll x = page(0, LIVE, 1, TEXT);
        x.set(2, OWN, 1);
        x.set(1, HIDDEN, 1);
        x.set(2, OWN, 2);
        dueHeard("once", x, 1);
    }

    /** Promise 21: "How many WRONGS there are.": none, and what is there again when it is wrong again. */
    static void wrongsFromNone() {
        PagesForAll x = page(0, PICTURE);
        due("one", x.wrongs(), 1);
        x.set(1, HINT, 1);
        due("none", x.wrongs(), 0);
        x.set(1, HINT, 0);
        due("one again", x.wrongs(), 1);
        x.set(1, HIDDEN, 1);
        due("none that is SHOWN", x.wrongs(), 0);
    }

    /** Promise 22: "The k-th of them: what = 0 the PART, 1 its sort; NONE." */
    static void wrongThatIsNotThere() {
        PagesForAll x = page(0, PICTURE, 0, PICTURE);
        due("the first", x.wrong(0, 0), 1);
        due("the last", x.wrong(1, 0), 2);
        due("behind the last", x.wrong(2, 0), NONE);
        for (int k : NO_INDEX) {
            due("the PART of " + k, x.wrong(k, 0), NONE);
            due("the sort of " + k, x.wrong(k, 1), NONE);
        }
    }

    /** Promise 22: "OUTSIDE: what.": also where there is no k-th. */
    static void wrongOfNothing() {
        PagesForAll x = page(0, PICTURE);
        for (int what : new int[] {LEAST, -1, 2, MOST}) {
            due("what " + what, x.wrong(0, what), OUTSIDE);
            due("what " + what + " of none", x.wrong(-1, what), OUTSIDE);
        }
    }

    /** Promise 23: "how many there are then": mending may make another one wrong, or not be enough. */
    static void mendingMayMakeATwin() {
        PagesForAll x = page(0, BUTTON, 0, BUTTON);
        x.set(2, OWN, 1000001);
        due("1 is NAMELESS", x.wrong(0, 0), 1);
        due("2 has its new NAME", x.mend(0), 1);
        dueWrongs("2 is a TWIN", x, 2, TWIN);
        due("then none is", x.mend(0), 0);
        PagesForAll y = page(0, BUTTON, 0, BUTTON);
        y.set(1, OWN, 1000002);
        y.set(2, OWN, 1000002);
        due("the new NAME is the old one", y.mend(0), 1);
        dueWrongs("2 is a TWIN still", y, 2, TWIN);
        due("its TOLD words", y.told(2, TOLD), 1000002);
    }

    /** Promise 23: "NAMELESS, TWIN: its LABELS become NONE, its TOLD words 1000000 and its number": up to the last. */
    static void mendedNamesUpToTheLastPart() {
        PagesForAll x = fullPage(PICTURE);
        x.set(23, LABEL, 22);
        x.set(23, SECOND_LABEL, 23);
        for (int left = 22; left >= 0; left--) {
            due("one less", x.mend(left), left);
        }
        for (int p = 1; p <= LAST_PART; p++) {
            due("TOLD words of " + p, x.told(p, TOLD), 1000000 + p);
            due("OWN words of " + p, x.told(p, OWN), 0);
            due("HINT of " + p, x.told(p, HINT), 0);
        }
        due("LABEL", x.told(23, LABEL), NONE);
        due("second LABEL", x.told(23, SECOND_LABEL), NONE);
        dueName("its NAME", x, 23, 1000023);
    }

    /** Promise 23: "INK becomes 0 or 16777215, of these the one with the greater CONTRAST (of like ones 0)" */
    static void mendedInks() {
        int[] grounds = {0, 0xc9030b, 0x0a29c5, 0xb9014e, 0x08345e, 0x05355d, WHITE};
        int[] inks = {WHITE, WHITE, 0, 0, 0, 0, 0};
        for (int i = 0; i < grounds.length; i++) {
            for (int kind = TEXT; kind <= FIELD; kind++) {
                PagesForAll x = page(0, kind);
                x.set(1, OWN, 1);
                x.colours(1, grounds[i], grounds[i]);
                due("PALE", x.wrong(0, 1), PALE);
                due("mended", x.mend(0), 0);
                due("INK on " + grounds[i], x.told(1, INK), inks[i]);
                due("GROUND stays", x.told(1, GROUND), grounds[i]);
            }
        }
    }

    /** Promise 23: "the one with the greater CONTRAST": with its GROUND, not with the INK that it had. */
    static void mendedInkIsOnTheGround() {
        PagesForAll x = page(0, TEXT);
        due("grey 40 on grey 50", x.colours(1, 0x282828, 0x323232), 1189);
        due("mended", x.mend(0), 0);
        due("black on grey 50", x.told(1, INK), 0);
        due("grey 50 on grey 40", x.colours(1, 0x323232, 0x282828), 1189);
        due("mended again", x.mend(0), 0);
        due("white on grey 40", x.told(1, INK), WHITE);
        due("its CONTRAST", x.contrast(1), 5075);
    }

    /** Promise 23: "SHORT: it becomes LONGER." */
    static void mendedWaits() {
        PagesForAll x = page(0, GROUP);
        x.set(0, WAIT, 1);
        x.set(1, WAIT, 19);
        due("the second", x.mend(1), 1);
        due("it is LONGER", x.told(1, LONGER), 1);
        due("its WAIT stays", x.told(1, WAIT), 19);
        due("the other one is not", x.told(0, LONGER), 0);
        due("THE PAGE", x.mend(0), 0);
        due("is LONGER", x.told(0, LONGER), 1);
    }

    /** Promise 23: "UNKNOWN: there is none" */
    static void mendThatIsNotThere() {
        PagesForAll x = page(0, PICTURE);
        long before = x.digest();
        due("behind the last", x.mend(1), UNKNOWN);
        for (int k : NO_INDEX) {
            due("mend " + k, x.mend(k), UNKNOWN);
        }
        due("nothing is mended", x.digest(), before);
        due("the last", x.mend(0), 0);
        due("no more", x.mend(0), UNKNOWN);
    }

    /** Promise 23: "STATE: CLOSED, ASTRAY" */
    static void mendNotClosedNorAstray() {
        PagesForAll x = page(0, TRAP, 1, FIELD, 1, FIELD);
        x.box(2, 0, 1, 1, 1);
        x.box(3, 0, 0, 1, 1);
        dueWrongs("both", x, 1, CLOSED, 2, NAMELESS, 2, ASTRAY, 3, NAMELESS);
        long before = x.digest();
        due("CLOSED", x.mend(0), STATE);
        due("ASTRAY", x.mend(2), STATE);
        due("nothing is changed", x.digest(), before);
        due("the last", x.mend(3), 3);
        due("the one between", x.mend(1), 2);
        dueWrongs("these two stay", x, 1, CLOSED, 2, ASTRAY);
    }

    /** Promise 24: "How many": the least and the most of each, "OUTSIDE". */
    static void countsUpToTheMost() {
        PagesForAll x = fullPage(BUTTON);
        due("PARTS", x.count(PARTS), 24);
        due("SHOWN", x.count(SHOWN_ONES), 24);
        due("STOPS", x.count(STOPS), 23);
        due("SAID", x.count(SAID_ONES), 23);
        due("THE SPOKEN", x.count(SPOKEN), 0);
        due("OPENED", x.count(OPENED), 0);
        for (int what : new int[] {LEAST, -1, 6, MOST}) {
            due("count " + what, x.count(what), OUTSIDE);
        }
        for (int p = 1; p <= LAST_PART; p++) {
            x.set(p, HIDDEN, 1);
        }
        due("PARTS that are not SHOWN", x.count(PARTS), 24);
        due("THE PAGE alone is SHOWN", x.count(SHOWN_ONES), 1);
        due("no STOPS", x.count(STOPS), 0);
        due("none SAID", x.count(SAID_ONES), 0);
    }

    /** Promise 24: "unlike PARTS that are OPENED": by whatever KIND, HIDDEN or not, up to six. */
    static void countOfOpenedParts() {
        PagesForAll x = page(0, GROUP, 0, TEXT, 0, BUTTON, 0, FIELD, 0, PICTURE, 0, TRAP, 0, LIVE);
        for (int p = 1; p <= 6; p++) {
            x.set(p, OPENS, p + 1);
            due("OPENED", x.count(OPENED), p);
        }
        x.set(3, HIDDEN, 1);
        due("HIDDEN or not", x.count(OPENED), 6);
        for (int p = 1; p <= 6; p++) {
            x.set(p, OPENS, 7);
        }
        due("all like", x.count(OPENED), 1);
        for (int p = 1; p <= 6; p++) {
            x.set(p, OPENS, NONE);
        }
        due("none", x.count(OPENED), 0);
    }

    /** Promise 25: "h is 107, then for each of these numbers .. 31 times h, and it": worked out elsewhere for a new one. */
    static void digestOfANewObject() {
        due("digest", new PagesForAll().digest(), -5845921788161464407L);
    }

    /** Promise 25: "(as longs, wrapping)": ints below 0 are taken with their sign. */
    static void digestWraps() {
        PagesForAll x = new PagesForAll();
        long first = x.digest();
        long weight = 1;
        for (int i = 0; i < 19; i++) {
            weight *= 31;
        }
        for (int words : new int[] {LEAST, -1, 1, MOST}) {
            x.set(0, OWN, words);
            due("words " + words, x.digest(), first + weight * words);
        }
        x.set(0, OWN, 0);
        due("as at first", x.digest(), first);
    }

    /** Promise 25: "FOCUS; THE SPOKEN; how many WRONGS": each told alone, THE SPOKEN as they came, none as nothing. */
    static void digestOfFocusSpokenAndWrongs() {
        PagesForAll x = page(0, LIVE, 1, LIVE, 2, FIELD);
        x.set(3, HINT, 1);
        long none = x.digest();
        x.press(NEXT);
        due("FOCUS is 3, not NONE", x.digest(), none + 31 * 4);
        x.leave();
        x.set(3, HINT, 0);
        x.set(3, TOLD, 1);
        x.set(3, WAIT, 1);
        long oneWrong = x.digest();
        x.set(3, OWN, 1);
        x.set(3, OWN, 0);
        due("2 is SPOKEN", x.digest(), 31 * (oneWrong - 1) + 31 * 2 + 1);
        x.set(2, OWN, 1);
        x.set(2, OWN, 0);
        due("2, 1 are SPOKEN", x.digest(), 31 * (31 * (oneWrong - 1) + 31 * 2) + 31 + 1);
        x.hear();
        due("1 is SPOKEN", x.digest(), 31 * (oneWrong - 1) + 31 + 1);
        x.hear();
        due("none is", x.digest(), oneWrong);
    }

    /** "An object is used for at most 512 calls": the last of them is answered as the first, also the dearest ones. */
    static void fiveHundredAndTwelveCalls() {
        PagesForAll x = new PagesForAll();
        int calls = 0;
        for (int door = 0; door < 6; door++) {
            int button = x.part(0, BUTTON);
            int group = x.part(0, GROUP);
            x.part(group, FIELD);
            x.set(button, OPENS, group);
            x.set(group, HIDDEN, 1);
            calls += 5;
        }
        while (calls < 511) {
            due("walk " + calls, x.walk(18), 3);
            calls++;
        }
        due("the last call", x.key(18), BACK);
    }

    public static void main(String[] args) throws IllegalAccessException {
        runAll(HeadingsTest.class);
        end();
    }
}
