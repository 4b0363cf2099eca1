import java.util.ArrayDeque;
import java.util.ArrayList;
import java.util.HashSet;
import java.util.LinkedHashSet;
import java.util.List;
import java.util.Set;

/** The document once more, as plainly as can be: a tree of objects, walked anew for each answer. */
final class PlainPages {
    private static final int NONE = -1, UNKNOWN = -101, OUTSIDE = -102, STATE = -103, FULL = -104;

    private static final class Part {
        int number, kind;
        Part parent;
        final List<Part> children = new ArrayList<>();
        int own, told, hint, firstLabel = NONE, secondLabel = NONE, place, opens = NONE, wait;
        boolean hidden, longer;
        int x, y, width, height, ink = 0, ground = 16777215;

        boolean isShown() {
            return !hidden && (parent == null || parent.isShown());
        }

        boolean liesIn(Part other) {
            return parent != null && (parent == other || parent.liesIn(other));
        }

        boolean liesInKind(int wanted) {
            return parent != null && (parent.kind == wanted || parent.liesInKind(wanted));
        }

        void inOrder(List<Part> into) {
            into.add(this);
            for (Part child : children) {
                child.inOrder(into);
            }
        }

        boolean isStop() {
            return isShown() && (kind == 2 || kind == 3);
        }
    }

    private final List<Part> parts = new ArrayList<>();
    private final List<Integer> spoken = new ArrayList<>();
    private int focus = NONE;

    PlainPages() {
        Part page = new Part();
        parts.add(page);
    }

    private PlainPages copy() {
        PlainPages copy = new PlainPages();
        copy.parts.clear();
        for (Part from : parts) {
            Part to = new Part();
            to.number = from.number;
            to.kind = from.kind;
            to.opens = from.opens;
            to.place = from.place;
            to.hidden = from.hidden;
            if (from.parent != null) {
                to.parent = copy.parts.get(from.parent.number);
                to.parent.children.add(to);
            }
            copy.parts.add(to);
        }
        copy.focus = focus;
        return copy;
    }

    private boolean unknown(int p) {
        return p < 0 || p >= parts.size();
    }

    private List<Part> ordered() {
        List<Part> all = new ArrayList<>();
        parts.get(0).inOrder(all);
        return all;
    }

    int part(int parent, int kind) {
        if (unknown(parent)) return UNKNOWN;
        if (kind < 0 || kind > 6) return OUTSIDE;
        if (parts.size() == 24) return FULL;
        Part made = new Part();
        made.number = parts.size();
        made.kind = kind;
        made.parent = parts.get(parent);
        made.parent.children.add(made);
        parts.add(made);
        return made.number;
    }

    private boolean fits(int what, int v) {
        if (what == 0 || what == 1 || what == 2) return true;
        if (what == 3 || what == 4) return v == NONE || !unknown(v);
        if (what == 5 || what == 9) return v == 0 || v == 1;
        if (what == 6) return 0 <= v && v <= 100;
        if (what == 7) return v == NONE || (v != 0 && !unknown(v));
        if (what == 8) return 0 <= v && v <= 1000;
        return false;
    }

    private Set<Integer> opened(Part except) {
        Set<Integer> all = new HashSet<>();
        for (Part part : parts) {
            if (part != except && part.opens != NONE) all.add(part.opens);
        }
        return all;
    }

    int set(int p, int what, int v) {
        if (unknown(p)) return UNKNOWN;
        if (!fits(what, v)) return OUTSIDE;
        if (p == 0 && what == 5) return STATE;
        Part part = parts.get(p);
        if (what == 7 && v != NONE) {
            Set<Integer> others = opened(part);
            if (others.size() >= 6 && !others.contains(v)) return FULL;
        }
        int was = told(p, what);
        if (what == 0) part.own = v;
        if (what == 1) part.told = v;
        if (what == 2) part.hint = v;
        if (what == 3) part.firstLabel = v;
        if (what == 4) part.secondLabel = v;
        if (what == 5) part.hidden = v == 1;
        if (what == 6) part.place = v;
        if (what == 7) part.opens = v;
        if (what == 8) part.wait = v;
        if (what == 9) part.longer = v == 1;
        if (was != v && (what == 0 || what == 5)) changed(part);
        return was;
    }

    private void changed(Part part) {
        Part live = part.parent;
        while (live != null && live.kind != 6) live = live.parent;
        if (live != null && live.isShown() && !spoken.contains(live.number)) spoken.add(live.number);
        if (focus != NONE && !parts.get(focus).isShown()) focus = NONE;
    }

    int told(int p, int what) {
        if (unknown(p)) return UNKNOWN;
        if (what < 0 || what > 18) return OUTSIDE;
        Part part = parts.get(p);
        int[] all = {part.own, part.told, part.hint, part.firstLabel, part.secondLabel, part.hidden ? 1 : 0, part.place,
            part.opens, part.wait, part.longer ? 1 : 0, part.kind, part.parent == null ? NONE : part.parent.number,
            part.x, part.y, part.width, part.height, part.ink, part.ground, part.isShown() ? 1 : 0};
        return all[what];
    }

    int box(int p, int x, int y, int width, int height) {
        if (unknown(p)) return UNKNOWN;
        for (int v : new int[] {x, y, width, height}) {
            if (v < 0 || v > 10000) return OUTSIDE;
        }
        Part part = parts.get(p);
        part.x = x;
        part.y = y;
        part.width = width;
        part.height = height;
        return 1;
    }

    private static long light(int colour) {
        return 2126L * (colour / 65536) + 7152L * (colour / 256 % 256) + 722L * (colour % 256);
    }

    private static int contrast(int ink, int ground) {
        long one = light(ink) + 127500, other = light(ground) + 127500;
        return (int) (one > other ? 1000 * one / other : 1000 * other / one);
    }

    int colours(int p, int ink, int ground) {
        if (unknown(p)) return UNKNOWN;
        if (ink < 0 || ink > 16777215 || ground < 0 || ground > 16777215) return OUTSIDE;
        parts.get(p).ink = ink;
        parts.get(p).ground = ground;
        return contrast(p);
    }

    int contrast(int p) {
        return unknown(p) ? UNKNOWN : contrast(parts.get(p).ink, parts.get(p).ground);
    }

    private List<Integer> nameOf(Part part) {
        List<Integer> words = new ArrayList<>();
        for (int label : new int[] {part.firstLabel, part.secondLabel}) {
            if (label != NONE && parts.get(label).own != 0) words.add(parts.get(label).own);
        }
        if (!words.isEmpty()) return words;
        if (part.told != 0) return List.of(part.told);
        if (part.own != 0) return List.of(part.own);
        if (part.kind == 2) {
            for (Part text : ordered()) {
                if (text.kind == 1 && text.liesIn(part) && text.isShown() && text.own != 0) words.add(text.own);
            }
            if (!words.isEmpty()) return words.size() > 8 ? words.subList(0, 8) : words;
        }
        return part.hint != 0 ? List.of(part.hint) : List.of();
    }

    int name(int p) {
        return unknown(p) ? UNKNOWN : nameOf(parts.get(p)).size();
    }

    int word(int p, int k) {
        if (unknown(p)) return 0;
        List<Integer> words = nameOf(parts.get(p));
        return k >= 0 && k < words.size() ? words.get(k) : 0;
    }

    private List<Part> saidOnes() {
        List<Part> all = new ArrayList<>();
        for (Part part : ordered()) {
            if (!part.isShown()) continue;
            if (part.kind == 1 && part.own != 0 && !part.liesInKind(2)) all.add(part);
            if (part.kind == 2 || part.kind == 3 || part.kind == 4) all.add(part);
        }
        return all;
    }

    int said(int k) {
        List<Part> all = saidOnes();
        return k >= 0 && k < all.size() ? all.get(k).number : NONE;
    }

    private static boolean above(Part a, Part b) {
        return a.y + a.height <= b.y;
    }

    private static boolean left(Part a, Part b) {
        return a.x + a.width <= b.x;
    }

    private static boolean astray(Part one, Part other) {
        if (one.width <= 0 || one.height <= 0 || other.width <= 0 || other.height <= 0) return false;
        if (above(other, one)) return true;
        return left(other, one) && !above(other, one) && !above(one, other);
    }

    int pairs() {
        List<Part> all = saidOnes();
        int pairs = 0;
        for (int j = 0; j < all.size(); j++) {
            for (int i = 0; i < j; i++) {
                if (astray(all.get(i), all.get(j))) pairs++;
            }
        }
        return pairs;
    }

    private List<Part> stops() {
        List<Part> all = new ArrayList<>();
        for (int place = 1; place <= 101; place++) {
            for (Part part : ordered()) {
                if (part.isStop() && part.place == place % 101) all.add(part);
            }
        }
        return all;
    }

    int stop(int k) {
        List<Part> all = stops();
        return k >= 0 && k < all.size() ? all.get(k).number : NONE;
    }

    private Part trap() {
        if (focus == NONE) return null;
        Part trap = parts.get(focus).parent;
        while (trap != null && !(trap.kind == 5 && trap.isShown())) trap = trap.parent;
        return trap;
    }

    int press(int key) {
        if (key < 0 || key > 2) return OUTSIDE;
        if (key == 2) {
            if (focus != NONE && parts.get(focus).kind == 2 && parts.get(focus).opens != NONE) {
                Part opened = parts.get(parts.get(focus).opens);
                opened.hidden = !opened.hidden;
                changed(opened);
            }
            return focus;
        }
        Part trap = trap();
        List<Integer> ring = new ArrayList<>();
        for (Part stop : stops()) {
            if (trap == null || stop.liesIn(trap)) ring.add(stop.number);
        }
        if (ring.isEmpty()) return focus;
        int at = ring.indexOf(focus);
        int last = ring.size() - 1;
        if (key == 0) {
            focus = at == -1 || at == last ? ring.get(0) : ring.get(at + 1);
        } else {
            focus = at == -1 || at == 0 ? ring.get(last) : ring.get(at - 1);
        }
        return focus;
    }

    int focus() {
        return focus;
    }

    int caught() {
        return trap() == null ? NONE : trap().number;
    }

    int leave() {
        int was = focus;
        focus = NONE;
        return was;
    }

    private String allThatKeysChange() {
        StringBuilder text = new StringBuilder();
        for (Part part : parts) {
            text.append(part.hidden ? 'h' : 's');
        }
        return text.append(focus).toString();
    }

    /** For each part the least number of keys from here, or NONE. */
    private int[] distances() {
        int[] least = new int[parts.size()];
        java.util.Arrays.fill(least, NONE);
        Set<String> seen = new HashSet<>();
        ArrayDeque<PlainPages> now = new ArrayDeque<>();
        now.add(copy());
        seen.add(allThatKeysChange());
        for (int length = 0; !now.isEmpty(); length++) {
            ArrayDeque<PlainPages> then = new ArrayDeque<>();
            for (PlainPages page : now) {
                if (page.focus != NONE && least[page.focus] == NONE) least[page.focus] = length;
                for (int key = 0; key <= 2; key++) {
                    PlainPages pressed = page.copy();
                    pressed.press(key);
                    if (seen.add(pressed.allThatKeysChange())) then.add(pressed);
                }
            }
            now = then;
        }
        return least;
    }

    int walk(int p) {
        return unknown(p) ? UNKNOWN : distances()[p];
    }

    /** The least key behind which one key less is needed. */
    int key(int p) {
        if (unknown(p)) return UNKNOWN;
        int length = distances()[p];
        for (int key = 0; key <= 2 && length > 0; key++) {
            PlainPages pressed = copy();
            pressed.press(key);
            if (pressed.distances()[p] == length - 1) return key;
        }
        return NONE;
    }

    int keeper() {
        Part trap = trap();
        if (trap == null) return NONE;
        int[] least = distances();
        for (Part part : parts) {
            if (!part.liesIn(trap) && least[part.number] != NONE) return NONE;
        }
        return trap.number;
    }

    int hear() {
        return spoken.isEmpty() ? NONE : spoken.remove(0);
    }

    private boolean closed(Part trap) {
        boolean any = false;
        for (Part stop : stops()) {
            if (!stop.liesIn(trap)) continue;
            any = true;
            if (stop.kind != 2 || stop.opens == NONE) continue;
            if (stop.opens == trap.number || trap.liesIn(parts.get(stop.opens))) return false;
        }
        return any;
    }

    /** The wrongs as rows of a part and a sort. */
    private List<int[]> allWrongs() {
        List<int[]> all = new ArrayList<>();
        List<Part> said = saidOnes();
        for (Part part : parts) {
            if (!part.isShown()) continue;
            Set<Integer> sorts = new LinkedHashSet<>();
            boolean stop = part.kind == 2 || part.kind == 3;
            List<Integer> name = nameOf(part);
            if ((stop || part.kind == 4) && name.isEmpty()) sorts.add(0);
            for (Part other : parts.subList(0, part.number)) {
                if (stop && other.isStop() && !name.isEmpty() && name.equals(nameOf(other))) sorts.add(1);
            }
            int contrast = contrast(part.number);
            if (part.kind == 1 && contrast < 4500 || stop && contrast < 3000) sorts.add(2);
            if (part.kind == 5 && closed(part)) sorts.add(3);
            int at = said.indexOf(part);
            for (int i = at + 1; at >= 0 && i < said.size(); i++) {
                if (astray(part, said.get(i))) sorts.add(4);
            }
            if (part.wait >= 1 && part.wait <= 19 && !part.longer) sorts.add(5);
            for (int sort : sorts) {
                all.add(new int[] {part.number, sort});
            }
        }
        return all;
    }

    int wrongs() {
        return allWrongs().size();
    }

    int wrong(int k, int what) {
        if (what != 0 && what != 1) return OUTSIDE;
        List<int[]> all = allWrongs();
        return k >= 0 && k < all.size() ? all.get(k)[what] : NONE;
    }

    int mend(int k) {
        List<int[]> all = allWrongs();
        if (k < 0 || k >= all.size()) return UNKNOWN;
        Part part = parts.get(all.get(k)[0]);
        switch (all.get(k)[1]) {
            case 0, 1 -> {
                part.firstLabel = NONE;
                part.secondLabel = NONE;
                part.told = 1000000 + part.number;
            }
            case 2 -> part.ink = contrast(16777215, part.ground) > contrast(0, part.ground) ? 16777215 : 0;
            case 5 -> part.longer = true;
            default -> {
                return STATE;
            }
        }
        return wrongs();
    }

    int count(int what) {
        int shown = 0;
        for (Part part : parts) {
            if (part.isShown()) shown++;
        }
        return switch (what) {
            case 0 -> parts.size();
            case 1 -> shown;
            case 2 -> stops().size();
            case 3 -> saidOnes().size();
            case 4 -> spoken.size();
            case 5 -> opened(null).size();
            default -> OUTSIDE;
        };
    }

    long digest() {
        List<Integer> numbers = new ArrayList<>();
        for (Part part : parts) {
            for (int what = 0; what <= 17; what++) {
                numbers.add(told(part.number, what));
            }
        }
        numbers.add(focus);
        numbers.addAll(spoken);
        numbers.add(wrongs());
        long h = 107;
        for (int number : numbers) {
            h = 31 * h + number;
        }
        return h;
    }
}
