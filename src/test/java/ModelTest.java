import java.util.Random;

/** Long runs of calls, always the same ones, on a PagesForAll and on a PlainPages: all answers must be alike. */
public final class ModelTest {
    private static final int RUNS = 500, MOST_LATER_CALLS = 110;
    private static final int[] WILD = {Integer.MIN_VALUE, -104, -101, -2, -1, 0, 1, 2, 7, 18, 23, 24, 25, 100, 101,
        1000, 1001, 10000, 10001, 16777215, 16777216, Integer.MAX_VALUE};
    private static final int[] WAITS = {0, 1, 19, 20, 1000};
    private static final int[] GREYS = {0, 20, 25, 26, 43, 44, 45, 46, 100, 255};
    private static final int[] CHANGING_SETS = {0, 0, 1, 2, 3, 4, 5, 5, 5, 6, 6, 7, 7, 7, 8, 9};

    private final Random random;
    private final PagesForAll x = new PagesForAll();
    private final PlainPages plain = new PlainPages();
    private final StringBuilder calls = new StringBuilder();
    private final int[] kinds;
    private final boolean isDeep;
    private boolean isAlike = true;

    private ModelTest(int seed) {
        random = new Random(seed);
        isDeep = random.nextBoolean();
        kinds = new int[4 + random.nextInt(8)];
        for (int i = 0; i < kinds.length; i++) {
            kinds[i] = random.nextInt(3) == 0 ? of(1, 2) : random.nextInt(7);
        }
    }

    private void same(String call, long got, long want) {
        calls.append(call).append(" -> ").append(got).append('\n');
        if (got != want && isAlike) {
            isAlike = false;
            System.out.println(calls + "due is " + want);
        }
    }

    private int of(int... values) {
        return values[random.nextInt(values.length)];
    }

    private int wildOr(int tame) {
        return random.nextInt(40) == 0 ? of(WILD) : tame;
    }

    private int anyPart() {
        return wildOr(random.nextInt(plain.count(0)));
    }

    private int anyIndex(int size) {
        return wildOr(random.nextInt(size + 2) - 1);
    }

    private int valueFor(int what) {
        switch (what) {
            case 0: case 1: case 2:
                return wildOr(random.nextInt(4));
            case 3: case 4: case 7:
                return wildOr(random.nextInt(plain.count(0) + 1) - 1);
            case 5: case 9:
                return wildOr(random.nextInt(2));
            case 6:
                return wildOr(random.nextInt(4));
            default:
                return wildOr(of(WAITS));
        }
    }

    private void part() {
        int all = plain.count(0);
        int parent = wildOr(isDeep ? Math.max(0, all - 1 - random.nextInt(4)) : random.nextInt(all));
        int kind = wildOr(of(kinds));
        same("part(" + parent + ", " + kind + ")", x.part(parent, kind), plain.part(parent, kind));
    }

    private void set() {
        int p = anyPart();
        int what = wildOr(of(CHANGING_SETS));
        int v = valueFor(what);
        same("set(" + p + ", " + what + ", " + v + ")", x.set(p, what, v), plain.set(p, what, v));
    }

    private void box() {
        int p = anyPart();
        int left = wildOr(random.nextInt(5)), top = wildOr(random.nextInt(5));
        int width = wildOr(random.nextInt(4)), height = wildOr(random.nextInt(4));
        same("box(" + p + ", " + left + ", " + top + ", " + width + ", " + height + ")",
            x.box(p, left, top, width, height), plain.box(p, left, top, width, height));
    }

    private void colours() {
        int p = anyPart();
        int ink = wildOr(random.nextBoolean() ? of(GREYS) * 0x10101 : random.nextInt(16777216));
        int ground = wildOr(random.nextBoolean() ? of(GREYS) * 0x10101 : random.nextInt(16777216));
        same("colours(" + p + ", " + ink + ", " + ground + ")", x.colours(p, ink, ground), plain.colours(p, ink, ground));
        same("contrast(" + p + ")", x.contrast(p), plain.contrast(p));
    }

    private void press() {
        int key = wildOr(of(0, 0, 1, 2, 2));
        same("press(" + key + ")", x.press(key), plain.press(key));
        same("focus()", x.focus(), plain.focus());
        same("caught()", x.caught(), plain.caught());
    }

    private void askOfPart() {
        int p = anyPart();
        int what = wildOr(random.nextInt(19));
        int k = wildOr(random.nextInt(9));
        same("told(" + p + ", " + what + ")", x.told(p, what), plain.told(p, what));
        same("name(" + p + ")", x.name(p), plain.name(p));
        same("word(" + p + ", " + k + ")", x.word(p, k), plain.word(p, k));
    }

    private void askOfRows() {
        int k = anyIndex(plain.count(3)), j = anyIndex(plain.count(2)), what = wildOr(random.nextInt(6));
        same("said(" + k + ")", x.said(k), plain.said(k));
        same("stop(" + j + ")", x.stop(j), plain.stop(j));
        same("pairs()", x.pairs(), plain.pairs());
        same("count(" + what + ")", x.count(what), plain.count(what));
    }

    private void askOfWalks() {
        int p = anyPart();
        same("walk(" + p + ")", x.walk(p), plain.walk(p));
        same("key(" + p + ")", x.key(p), plain.key(p));
        same("keeper()", x.keeper(), plain.keeper());
    }

    private void askOfWrongs() {
        int k = anyIndex(plain.wrongs());
        int what = wildOr(random.nextInt(2));
        same("wrongs()", x.wrongs(), plain.wrongs());
        same("wrong(" + k + ", " + what + ")", x.wrong(k, what), plain.wrong(k, what));
        if (random.nextInt(3) == 0) {
            same("mend(" + k + ")", x.mend(k), plain.mend(k));
        }
    }

    private void call() {
        int choice = random.nextInt(100);
        if (choice < 12) {
            part();
        } else if (choice < 45) {
            set();
        } else if (choice < 52) {
            box();
        } else if (choice < 57) {
            colours();
        } else if (choice < 77) {
            press();
        } else if (choice < 81) {
            askOfPart();
        } else if (choice < 85) {
            askOfRows();
        } else if (choice < 87) {
            askOfWalks();
        } else if (choice < 93) {
            askOfWrongs();
        } else if (choice < 95) {
            same("leave()", x.leave(), plain.leave());
        } else if (choice < 97) {
            same("hear()", x.hear(), plain.hear());
        } else {
            same("digest()", x.digest(), plain.digest());
        }
    }

    /** Most runs begin with many parts and some doors, for little happens on small pages. */
    private void build() {
        int wanted = random.nextInt(26);
        for (int i = 0; i < wanted; i++) {
            part();
        }
        for (int i = 0; i < wanted; i++) {
            set();
        }
    }

    private boolean runs() {
        build();
        for (int i = 0; i < MOST_LATER_CALLS && isAlike; i++) {
            call();
        }
        return isAlike;
    }

    public static void main(String[] args) {
        int failures = 0;
        for (int seed = 0; seed < RUNS && failures < 3; seed++) {
            if (!new ModelTest(seed).runs()) {
                failures++;
            }
        }
        if (failures > 0) {
            System.exit(1);
        }
    }
}
