import java.util.ArrayList;
import java.util.Arrays;
import java.util.Comparator;
import java.util.HashMap;
import java.util.List;
import java.util.Map;
import java.util.NoSuchElementException;
import java.util.TreeMap;

/**
 * The document's words once more, as literally as the Java library allows and without a thought for speed. Random
 * runs compare the class with it: it is made another way on purpose, so that one slip isn't made twice.
 */
final class Model {
    /** A STEP in its parts; a body that a kind hasn't is empty. */
    record Step(int kind, int writer, int number, List<Integer> seen, int age, int sign, int undone,
            List<Integer> marks, List<List<Integer>> keys) {
    }

    /** A PAGE: of each writer a list of steps, and held ones by mark-like numbers. */
    static final class Page {
        final int owner;
        final List<List<Step>> had = new ArrayList<>();
        final TreeMap<Integer, Step> held = new TreeMap<>();

        Page(int owner) {
            this.owner = owner;
            for (int w = 0; w < 5; w++) {
                had.add(new ArrayList<>());
            }
        }

        Page copy() {
            Page copy = new Page(owner);
            for (int w = 0; w < 5; w++) {
                copy.had.get(w).addAll(had.get(w));
            }
            copy.held.putAll(held);
            return copy;
        }

        Step get(int writer, int number) {
            boolean there = writer >= 0 && writer < 5 && number >= 1 && number <= had.get(writer).size();
            return there ? had.get(writer).get(number - 1) : null;
        }

        Step byMark(int mark) {
            return mark < 0 ? null : get(mark / 100, mark % 100);
        }

        boolean holds(Step step) {
            return had.get(step.writer).stream()
                    .noneMatch(s -> s.number > step.number && s.kind == 2 && s.undone == step.number && holds(s));
        }

        List<Step> all() {
            List<Step> all = new ArrayList<>();
            had.forEach(all::addAll);
            return all;
        }

        boolean isMark(int mark) {
            Step step = byMark(mark);
            return step != null && step.kind == 0;
        }

        boolean counts(Step step) {
            return step.marks.stream().allMatch(this::isMark);
        }

        List<Integer> keyNow(int mark) {
            return all().stream()
                    .filter(s -> s.kind == 3 && s.marks.contains(mark) && counts(s) && holds(s))
                    .max(Comparator.comparingInt(Step::age).thenComparingInt(Step::writer).thenComparingInt(Step::number))
                    .map(s -> s.keys.get(s.marks.indexOf(mark)))
                    .orElseGet(() -> byMark(mark).keys.get(0));
        }

        boolean shows(int mark) {
            return holds(byMark(mark))
                    && all().stream().noneMatch(s -> s.kind == 1 && s.marks.get(0) == mark && holds(s));
        }

        List<Integer> row() {
            Map<Integer, List<Integer>> keys = new HashMap<>();
            List<Integer> row = new ArrayList<>();
            for (Step step : all()) {
                if (step.kind == 0) {
                    int mark = 100 * step.writer + step.number;
                    row.add(mark);
                    keys.put(mark, keyNow(mark));
                }
            }
            row.sort((a, b) -> {
                int apart = compare(keys.get(a), keys.get(b));
                return apart != 0 ? apart : Integer.compare(a, b);
            });
            return row;
        }

        List<Integer> text() {
            return row().stream().filter(this::shows).toList();
        }

        boolean gone(int mark) {
            int writers = writersOf;
            for (int w = 0; w < writers; w++) {
                if (!struckBy(w, mark, had.get(w).size())) {
                    return false;
                }
                Step latest = had.get(w).get(had.get(w).size() - 1);
                for (int v = 0; v < writers; v++) {
                    int saw = w == owner ? had.get(v).size() : latest.seen.get(v);
                    if (v != w && !struckBy(v, mark, saw)) {
                        return false;
                    }
                }
            }
            return true;
        }

        int writersOf = 2;

        boolean struckBy(int writer, int mark, int upTo) {
            return had.get(writer).stream()
                    .anyMatch(s -> s.kind == 1 && s.number <= upTo && s.marks.get(0) == mark && holds(s));
        }

        int age() {
            return all().stream().mapToInt(Step::age).max().orElse(0);
        }

        boolean hasSeen(Step step) {
            for (int w = 0; w < 5; w++) {
                if (had.get(w).size() < step.seen.get(w)) {
                    return false;
                }
            }
            return true;
        }

        int hear(Step step) {
            int name = 100 * step.writer + step.number;
            Step known = byMark(name) != null ? byMark(name) : held.get(name);
            if (known != null) {
                return known.equals(step) ? 0 : 14;
            }
            if (!hasSeen(step)) {
                if (held.size() == 20) {
                    return 15;
                }
                held.put(name, step);
                return 1;
            }
            had.get(step.writer).add(step);
            settle();
            return 2;
        }

        void settle() {
            boolean more = true;
            while (more) {
                held.keySet().removeIf(name -> byMark(name) != null);
                more = false;
                for (Step step : held.values()) {
                    if (hasSeen(step)) {
                        had.get(step.writer).add(step);
                        more = true;
                        break;
                    }
                }
            }
        }
    }

    /** What the first fault of a packet is, and where. */
    static final class Faulty extends Exception {
        private static final long serialVersionUID = 1L;
        final int fault;
        final int place;

        Faulty(int fault, int place) {
            this.fault = fault;
            this.place = place;
        }
    }

    private int writers = 2;
    private List<Page> pages = newPages(2);
    private List<Page> keptPages = null;
    private int[] status = new int[3];
    private int[] keptStatus = null;
    private final List<Integer> tape = new ArrayList<>();
    private int faultPlace = -1;
    private final List<Integer> told = new ArrayList<>();
    private final List<int[]> acts = new ArrayList<>();

    static int compare(List<Integer> a, List<Integer> b) {
        for (int k = 0; k < Math.min(a.size(), b.size()); k++) {
            if (!a.get(k).equals(b.get(k))) {
                return Integer.compare(a.get(k), b.get(k));
            }
        }
        return Integer.compare(a.size(), b.size());
    }

    private static List<Page> newPages(int n) {
        List<Page> pages = new ArrayList<>();
        for (int w = 0; w < n; w++) {
            Page page = new Page(w);
            page.writersOf = n;
            pages.add(page);
        }
        return pages;
    }

    private static List<Page> copies(List<Page> pages) {
        List<Page> copies = new ArrayList<>();
        for (Page page : pages) {
            Page copy = page.copy();
            copy.writersOf = page.writersOf;
            copies.add(copy);
        }
        return copies;
    }

    private Page at(int page) {
        if (page < 0 || page >= writers) {
            throw new NoSuchElementException();
        }
        return pages.get(page);
    }

    private Step stepAt(int page, int writer, int number) {
        Step step = at(page).get(writer, number);
        if (step == null) {
            throw new NoSuchElementException();
        }
        return step;
    }

    private int refuse(int kind) {
        status[kind]++;
        return -1;
    }

    void writers(int n) {
        if (n < 1 || n > 5) {
            throw new IllegalArgumentException();
        }
        writers = n;
        pages = newPages(n);
        keptPages = null;
    }

    int count(int what) {
        int[] all = {writers, tape.size(), status[0], status[1], status[2], acts.size(), told.size()};
        if (what < 0 || what >= all.length) {
            throw new NoSuchElementException();
        }
        return all[what];
    }

    int page(int page, int what) {
        Page p = at(page);
        if (what >= 10 && what < 10 + writers) {
            return p.had.get(what - 10).size();
        }
        return switch (what) {
            case 0 -> p.row().size();
            case 1 -> p.text().size();
            case 2 -> p.held.size();
            case 3 -> (int) p.row().stream().filter(p::gone).count();
            case 4 -> p.age();
            default -> throw new NoSuchElementException();
        };
    }

    int text(int page, int i, int what) {
        Page p = at(page);
        List<Integer> text = p.text();
        if (i < 0 || i >= text.size()) {
            throw new NoSuchElementException();
        }
        int mark = text.get(i);
        List<Integer> key = p.keyNow(mark);
        if (what >= 10 && what - 10 < key.size()) {
            return key.get(what - 10);
        }
        return switch (what) {
            case 0 -> p.byMark(mark).sign;
            case 1 -> mark;
            case 2 -> key.size();
            default -> throw new NoSuchElementException();
        };
    }

    int step(int page, int writer, int number, int what) {
        Step s = stepAt(page, writer, number);
        return switch (what) {
            case 0 -> s.kind;
            case 1 -> s.age;
            case 2 -> at(page).holds(s) ? 1 : 0;
            case 3 -> s.kind == 1 ? s.marks.get(0) : s.kind == 2 ? s.undone : 0;
            default -> throw new NoSuchElementException();
        };
    }

    private boolean full(Page p) {
        return p.had.get(p.owner).size() == 60 || p.age() + 1 > 65535;
    }

    private int perform(Page p, int kind, int sign, int undone, List<Integer> marks, List<List<Integer>> keys) {
        List<Integer> seen = new ArrayList<>();
        p.had.forEach(steps -> seen.add(steps.size()));
        int number = p.had.get(p.owner).size() + 1;
        p.had.get(p.owner).add(new Step(kind, p.owner, number, seen, p.age() + 1, sign, undone, marks, keys));
        p.settle();
        return number;
    }

    /** The bounds of a new key at a place of the text: a's and b's numbers, b null without one. */
    private static List<List<Integer>> bounds(Page p, int place) {
        List<Integer> row = p.row();
        if (place == 0) {
            return Arrays.asList(List.of(), row.isEmpty() ? null : p.keyNow(row.get(0)));
        }
        int mark = p.text().get(place - 1);
        List<Integer> a = p.keyNow(mark);
        for (int i = row.indexOf(mark) + 1; i < row.size(); i++) {
            List<Integer> b = p.keyNow(row.get(i));
            if (!b.equals(a)) {
                return Arrays.asList(a, b);
            }
        }
        return Arrays.asList(a, null);
    }

    private static List<Integer> newKey(List<Integer> a, List<Integer> b, int writer) {
        List<Integer> key = new ArrayList<>();
        List<Integer> upper = b;
        while (key.size() < 24) {
            int k = key.size();
            int x = k < a.size() ? a.get(k) : 0;
            int y = upper != null ? upper.get(k) : 800;
            if (y / 8 - x / 8 >= 2) {
                key.add(8 * ((x / 8 + y / 8) / 2) + writer);
                return key;
            }
            key.add(x);
            if (x != y) {
                upper = null;
            }
        }
        return null;
    }

    int set(int page, int place, int sign) {
        Page p = at(page);
        if (full(p) || sign < 32 || sign > 126 || place < 0 || place > p.text().size()) {
            return refuse(0);
        }
        List<List<Integer>> ab = bounds(p, place);
        List<Integer> key = newKey(ab.get(0), ab.get(1), page);
        return key == null ? refuse(0) : perform(p, 0, sign, 0, List.of(), List.of(key));
    }

    int strike(int page, int place) {
        Page p = at(page);
        if (full(p) || place < 0 || place >= p.text().size()) {
            return refuse(0);
        }
        return perform(p, 1, 0, 0, List.of(p.text().get(place)), List.of());
    }

    int undo(int page, int number) {
        Page p = at(page);
        Step s = p.get(page, number);
        if (full(p) || s == null || !p.holds(s)) {
            return refuse(0);
        }
        if (s.kind == 1 && p.isMark(s.marks.get(0)) && p.gone(s.marks.get(0))) {
            return refuse(0);
        }
        return perform(p, 2, 0, number, List.of(), List.of());
    }

    int move(int page, int from, int to, int at) {
        Page p = at(page);
        List<Integer> text = p.text();
        if (full(p) || from < 0 || to >= text.size() || from > to || to - from + 1 > 6) {
            return refuse(0);
        }
        if (at < 0 || at > text.size() || !(at <= from || at > to)) {
            return refuse(0);
        }
        List<List<Integer>> ab = bounds(p, at);
        List<List<Integer>> keys = new ArrayList<>();
        List<Integer> a = ab.get(0);
        for (int i = from; i <= to; i++) {
            a = newKey(a, ab.get(1), page);
            if (a == null) {
                return refuse(0);
            }
            keys.add(a);
        }
        return perform(p, 3, 0, 0, List.copyOf(text.subList(from, to + 1)), keys);
    }

    private static void putKey(List<Integer> bytes, List<Integer> key) {
        bytes.add(key.size());
        for (int number : key) {
            bytes.add(number / 256);
            bytes.add(number % 256);
        }
    }

    static List<Integer> bytesOf(Step s) {
        List<Integer> bytes = new ArrayList<>(List.of(s.kind, s.writer, s.number));
        bytes.addAll(s.seen);
        bytes.add(s.age / 256);
        bytes.add(s.age % 256);
        if (s.kind == 0) {
            bytes.add(s.sign);
            putKey(bytes, s.keys.get(0));
        } else if (s.kind == 2) {
            bytes.add(s.undone);
        } else {
            if (s.kind == 3) {
                bytes.add(s.marks.size());
            }
            for (int i = 0; i < s.marks.size(); i++) {
                bytes.add(s.marks.get(i) / 100);
                bytes.add(s.marks.get(i) % 100);
                if (s.kind == 3) {
                    putKey(bytes, s.keys.get(i));
                }
            }
        }
        bytes.add(bytes.stream().mapToInt(b -> b).sum() % 256);
        return bytes;
    }

    int packet(int page, int writer, int number, int i) {
        List<Integer> bytes = bytesOf(stepAt(page, writer, number));
        if (i == -1) {
            return bytes.size();
        }
        if (i < 0 || i >= bytes.size()) {
            throw new NoSuchElementException();
        }
        return bytes.get(i);
    }

    int feed(int a, int b, int c, int d, int e) {
        if (tape.size() > 380) {
            return -1;
        }
        for (int number : new int[] {a, b, c, d, e}) {
            for (byte value : java.nio.ByteBuffer.allocate(4).putInt(number).array()) {
                tape.add(value & 0xff);
            }
        }
        return tape.size();
    }

    private static int byteAt(List<Integer> bytes, int at) throws Faulty {
        if (at >= bytes.size()) {
            throw new Faulty(1, bytes.size());
        }
        return bytes.get(at);
    }

    private static int within(int value, int least, int most, int place) throws Faulty {
        if (value < least || value > most) {
            throw new Faulty(2, place);
        }
        return value;
    }

    /** Reads a key at a place; its length in bytes is 1 and 2 for each number. */
    private static List<Integer> readKey(List<Integer> bytes, int at) throws Faulty {
        int many = within(byteAt(bytes, at), 1, 24, at);
        List<Integer> key = new ArrayList<>();
        for (int k = 1; k <= many; k++) {
            int place = at + 2 * k - 1;
            int high = byteAt(bytes, place);
            key.add(within(high * 256 + byteAt(bytes, place + 1), k == many ? 8 : 0, 799, place));
        }
        return key;
    }

    private int readMark(List<Integer> bytes, int at, List<Integer> seen) throws Faulty {
        int writer = within(byteAt(bytes, at), 0, writers - 1, at);
        return 100 * writer + within(byteAt(bytes, at + 1), 1, seen.get(writer), at + 1);
    }

    private Step read(List<Integer> bytes) throws Faulty {
        int kind = within(byteAt(bytes, 0), 0, 3, 0);
        int writer = within(byteAt(bytes, 1), 0, writers - 1, 1);
        int number = within(byteAt(bytes, 2), 1, 60, 2);
        List<Integer> seen = new ArrayList<>();
        for (int w = 0; w < 5; w++) {
            int most = w >= writers ? 0 : w == writer ? number - 1 : 60;
            seen.add(within(byteAt(bytes, 3 + w), w == writer ? number - 1 : 0, most, 3 + w));
        }
        int ageHigh = byteAt(bytes, 8);
        int age = within(ageHigh * 256 + byteAt(bytes, 9), 1, 65535, 8);
        int sign = 0;
        int undone = 0;
        List<Integer> marks = new ArrayList<>();
        List<List<Integer>> keys = new ArrayList<>();
        int at = 11;
        switch (kind) {
            case 0:
                sign = within(byteAt(bytes, 10), 32, 126, 10);
                keys.add(readKey(bytes, 11));
                at = 12 + 2 * keys.get(0).size();
                break;
            case 1:
                marks.add(readMark(bytes, 10, seen));
                at = 12;
                break;
            case 2:
                undone = within(byteAt(bytes, 10), 0, number - 1, 10);
                break;
            default:
                int many = within(byteAt(bytes, 10), 1, 6, 10);
                for (int i = 0; i < many; i++) {
                    int mark = readMark(bytes, at, seen);
                    if (marks.contains(mark)) {
                        throw new Faulty(2, at);
                    }
                    marks.add(mark);
                    List<Integer> key = readKey(bytes, at + 2);
                    keys.add(key);
                    at += 3 + 2 * key.size();
                }
        }
        int sum = bytes.subList(0, at).stream().mapToInt(b -> b).sum() % 256;
        if (byteAt(bytes, at) != sum) {
            throw new Faulty(3, at);
        }
        if (bytes.size() > at + 1) {
            throw new Faulty(1, at + 1);
        }
        return new Step(kind, writer, number, seen, age, sign, undone, marks, keys);
    }

    int hear(int page, int n) {
        Page p = at(page);
        if (n < 0 || n > tape.size()) {
            throw new IllegalArgumentException();
        }
        List<Integer> bytes = List.copyOf(tape.subList(0, n));
        tape.clear();
        faultPlace = -1;
        int answer;
        try {
            answer = p.hear(read(bytes));
            faultPlace = answer > 10 ? 0 : -1;
        } catch (Faulty f) {
            answer = 10 + f.fault;
            faultPlace = f.place;
        }
        if (answer > 10) {
            status[1]++;
        }
        return answer;
    }

    int fault() {
        return faultPlace;
    }

    int send(int from, int to, int writer, int number) {
        Step s = stepAt(from, writer, number);
        int answer = at(to).hear(s);
        return answer > 10 ? refuse(1) : answer;
    }

    private static List<Integer> lackList(Page page, Page other) {
        List<Integer> lacks = new ArrayList<>();
        for (Step s : other.all()) {
            if (!s.equals(page.get(s.writer, s.number))) {
                lacks.add(100 * s.writer + s.number);
            }
        }
        return lacks;
    }

    int lacks(int page, int other, int i) {
        List<Integer> lacks = lackList(at(page), at(other));
        if (i == -1) {
            return lacks.size();
        }
        if (i < 0 || i >= lacks.size()) {
            throw new NoSuchElementException();
        }
        return lacks.get(i);
    }

    int fewest(int page, int other) {
        return lackList(at(page), at(other)).size() + lackList(at(other), at(page)).size();
    }

    boolean alike(int page, int other) {
        return at(page).had.equals(at(other).had);
    }

    int whose(int page, int writer) {
        Page p = at(page);
        at(writer);
        return (int) p.text().stream().filter(mark -> mark / 100 == writer).count();
    }

    boolean gone(int page, int mark) {
        Page p = at(page);
        if (!p.isMark(mark)) {
            throw new NoSuchElementException();
        }
        return p.gone(mark);
    }

    int say(int sign) {
        if (told.size() == 12 || sign < 32 || sign > 126) {
            return refuse(2);
        }
        told.add(sign);
        return told.size();
    }

    int act(int pen, int place, int sign) {
        boolean wrong = pen < 0 || pen > 2 || place < 0 || place > 7 || sign != -1 && (sign < 32 || sign > 126);
        if (wrong || acts.size() == 8) {
            return refuse(2);
        }
        acts.add(new int[] {pen, place, sign});
        return acts.size();
    }

    void clear() {
        told.clear();
        acts.clear();
    }

    /** Every row of pens there is, by counting in threes: those with the right acts of each pen are orders. */
    int story(int what) {
        int n = acts.size();
        int rows = (int) Math.pow(3, n);
        int orders = 0;
        int most = 0;
        List<Integer> first = null;
        for (int row = 0; row < rows; row++) {
            List<Integer> pens = new ArrayList<>();
            for (int i = 0, rest = row; i < n; i++, rest /= 3) {
                pens.add(0, rest % 3);
            }
            if (!isOrder(pens)) {
                continue;
            }
            List<Integer> text = new ArrayList<>();
            int done = perform(pens, text);
            most = Math.max(most, done);
            if (done == n && text.equals(told)) {
                first = first == null ? pens : first;
                orders++;
            }
        }
        if (what == 0 || what == 1) {
            return what == 0 ? orders : most;
        }
        if (what < 10 || what - 10 >= n || first == null) {
            throw new NoSuchElementException();
        }
        return first.get(what - 10);
    }

    private boolean isOrder(List<Integer> pens) {
        for (int pen = 0; pen < 3; pen++) {
            int which = pen;
            if (pens.stream().filter(p -> p == which).count() != acts.stream().filter(a -> a[0] == which).count()) {
                return false;
            }
        }
        return true;
    }

    private int perform(List<Integer> pens, List<Integer> text) {
        int[] next = new int[3];
        for (int done = 0; done < pens.size(); done++) {
            int pen = pens.get(done);
            int[] act = acts.stream().filter(a -> a[0] == pen).toList().get(next[pen]++);
            if (act[1] > text.size() || act[2] == -1 && act[1] == text.size()) {
                return done;
            }
            if (act[2] == -1) {
                text.remove(act[1]);
            } else {
                text.add(act[1], act[2]);
            }
        }
        return pens.size();
    }

    void image() {
        keptPages = copies(pages);
        keptStatus = status.clone();
    }

    boolean restore() {
        if (keptPages == null) {
            return false;
        }
        pages = copies(keptPages);
        status = keptStatus.clone();
        return true;
    }
}
