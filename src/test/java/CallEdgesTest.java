import java.util.ArrayList;
import java.util.Arrays;
import java.util.List;

/** Each edge that promises 1 to 6 and 19 and 20 name, and the PAGES that there aren't, of every call. */
public final class CallEdgesTest {
    private static final Check CHECK = new Check();
    private static final int LEAST = Integer.MIN_VALUE;
    private static final int MOST = Integer.MAX_VALUE;

    public static void main(String[] args) {
        newObject();
        writersRefused();
        writersAnew();
        writersShrink();
        countRefused();
        noSuchPage();
        pageWhat();
        textWhat();
        textPlaces();
        stepWhat();
        stepHolds();
        whoseWriter();
        goneMark();
        asksChangeNothing();
        answersAfterEachChange();
        CHECK.finish();
    }

    private static void newObject() {
        CHECK.sentence("Two WRITERS, empty PAGES");
        PenPage x = new PenPage();
        CHECK.due("writers", 2, () -> x.count(0));
        for (int what = 1; what <= 6; what++) {
            int w = what;
            CHECK.due("count " + what, 0, () -> x.count(w));
        }
        for (int page = 0; page <= 1; page++) {
            for (int what : new int[] {0, 1, 2, 3, 4, 10, 11}) {
                int p = page;
                CHECK.due("page " + page + ", " + what, 0, () -> x.page(p, what));
            }
        }
        CHECK.due("no third page", Check.NO_SUCH, () -> x.page(2, 0));
        CHECK.due("alike", 1, () -> x.alike(0, 1) ? 1 : 0);
        CHECK.due("fewest", 0, () -> x.fewest(0, 1));
        CHECK.due("lacks", 0, () -> x.lacks(0, 1, PenPage.NONE));
        CHECK.due("no fault", PenPage.NONE, x::fault);
        CHECK.due("no image", 0, () -> x.restore() ? 1 : 0);
        CHECK.due("one empty order", 1, () -> x.story(0));
        CHECK.due("no acts", 0, () -> x.story(1));
        CHECK.due("no text", Check.NO_SUCH, () -> x.text(0, 0, 0));
        CHECK.due("no step", Check.NO_SUCH, () -> x.step(0, 0, 1, 0));
        CHECK.due("no mark", Check.NO_SUCH, () -> x.gone(0, 1) ? 1 : 0);
        PenPage y = new PenPage();
        x.set(0, 0, 97);
        CHECK.due("another object is another", 0, () -> y.page(0, 10));
    }

    private static long anew(PenPage x, int writers) {
        x.writers(writers);
        return 0;
    }

    /** Two writers with a step each, one of them held by the other, a fault, a tape, a story, an image. */
    private static PenPage busy() {
        PenPage x = new PenPage();
        x.set(0, 0, 97);
        x.set(1, 0, 98);
        x.set(1, 1, 99);
        x.send(1, 0, 1, 2);
        x.strike(0, 7);
        x.hear(0, 0);
        x.hear(0, 0);
        x.say(31);
        x.say(31);
        x.say(31);
        x.say(97);
        x.act(0, 0, 97);
        x.feed(1, 2, 3, 4, 5);
        x.image();
        return x;
    }

    private static void writersRefused() {
        CHECK.sentence("So many WRITERS (1 to 5) .. IllegalArgumentException: not as told");
        PenPage x = busy();
        for (int n : new int[] {0, -1, 6, 7, 256 + 2, LEAST, MOST}) {
            CHECK.due("writers " + n, Check.ILLEGAL, () -> anew(x, n));
        }
        CHECK.due("still two", 2, () -> x.count(0));
        CHECK.due("his mark stands", 97, () -> x.text(0, 0, 0));
        CHECK.due("held still", 1, () -> x.page(0, 2));
        CHECK.due("nothing is counted", 1, () -> x.count(2));
        CHECK.due("the tape stays", 20, () -> x.count(1));
        CHECK.due("the fault stays", 0, x::fault);
        CHECK.due("the image stays", 1, () -> x.restore() ? 1 : 0);
    }

    private static void writersAnew() {
        CHECK.sentence("all anew (STATUS and the STORY stay; the image is gone)");
        for (int n = 1; n <= 5; n++) {
            PenPage x = busy();
            x.page(0, 1);
            x.writers(n);
            int many = n;
            CHECK.due("so many", many, () -> x.count(0));
            for (int page = 0; page < n; page++) {
                int p = page;
                for (int what = 0; what <= 4; what++) {
                    int w = what;
                    CHECK.due("page " + page + ", " + what, 0, () -> x.page(p, w));
                }
                for (int writer = 0; writer < n; writer++) {
                    int w = 10 + writer;
                    CHECK.due("steps", 0, () -> x.page(p, w));
                }
                CHECK.due("no text", Check.NO_SUCH, () -> x.text(p, 0, 0));
            }
            CHECK.due("STATUS 0 stays", 1, () -> x.count(2));
            CHECK.due("STATUS 1 stays", 2, () -> x.count(3));
            CHECK.due("STATUS 2 stays", 3, () -> x.count(4));
            CHECK.due("the acts stay", 1, () -> x.count(5));
            CHECK.due("the signs stay", 1, () -> x.count(6));
            CHECK.due("the story is as it was", 1, () -> x.story(0));
            CHECK.due("the tape is no page's", 20, () -> x.count(1));
            CHECK.due("nor is the latest fault", 0, x::fault);
            CHECK.due("the image is gone", 0, () -> x.restore() ? 1 : 0);
            CHECK.due("steps begin at 1", 1, () -> x.set(many - 1, 0, 97));
            CHECK.due("of age 1", 1, () -> x.step(many - 1, many - 1, 1, 1));
        }
    }

    private static void writersShrink() {
        CHECK.sentence("So many WRITERS (1 to 5), all anew");
        PenPage x = new PenPage();
        x.writers(5);
        for (int w = 0; w < 5; w++) {
            x.set(w, 0, 97);
            x.send(w, 0, w, 1);
        }
        x.writers(1);
        CHECK.due("no steps of 0", 0, () -> x.page(0, 10));
        CHECK.due("no writer 4", Check.NO_SUCH, () -> x.page(0, 14));
        CHECK.due("no step of his", Check.NO_SUCH, () -> x.step(0, 4, 1, 0));
        CHECK.due("nor a packet", Check.NO_SUCH, () -> x.packet(0, 4, 1, 0));
        CHECK.due("nor a mark", Check.NO_SUCH, () -> x.gone(0, 401) ? 1 : 0);
        CHECK.due("a packet of his is a fault", 12, () -> Bytes.hear(x, 0, Bytes.set(4, 1, 1, 97, 8)));
        CHECK.due("at its second byte", 1, x::fault);
        x.writers(5);
        for (int w = 0; w < 5; w++) {
            int page = w;
            CHECK.due("page " + w + " is empty", 0, () -> x.page(page, 0));
            CHECK.due("it has no steps of 4", 0, () -> x.page(page, 14));
        }
    }

    private static void countRefused() {
        CHECK.sentence("0 WRITERS, 1 bytes of the tape, 2 to 4 STATUS 0 to 2, 5 acts of the STORY, 6 its SIGNS. "
                + "NoSuchElementException: another what");
        PenPage x = busy();
        x.act(1, 1, 97);
        int[] due = {2, 20, 1, 2, 3, 2, 1};
        for (int i = 0; i < due.length; i++) {
            int what = i;
            CHECK.due("count " + what, due[what], () -> x.count(what));
        }
        for (int what : new int[] {-1, 7, 10, LEAST, MOST}) {
            CHECK.due("count " + what, Check.NO_SUCH, () -> x.count(what));
        }
    }

    /** Every call that takes a page, as rightly as a page that there isn't allows. */
    private static List<Check.Call> calls(PenPage x, int page, int other) {
        List<Check.Call> calls = new ArrayList<>();
        calls.add(() -> x.page(page, other));
        calls.add(() -> x.text(page, other, other));
        calls.add(() -> x.step(page, other, other, other));
        calls.add(() -> x.set(page, other, other));
        calls.add(() -> x.set(page, 0, 97));
        calls.add(() -> x.strike(page, other));
        calls.add(() -> x.undo(page, other));
        calls.add(() -> x.move(page, other, other, other));
        calls.add(() -> x.packet(page, other, other, other));
        calls.add(() -> x.hear(page, other));
        calls.add(() -> x.send(page, other, other, other));
        calls.add(() -> x.send(other, page, other, other));
        calls.add(() -> x.send(0, page, 0, 1));
        calls.add(() -> x.lacks(page, other, other));
        calls.add(() -> x.lacks(0, page, PenPage.NONE));
        calls.add(() -> x.fewest(page, other));
        calls.add(() -> x.fewest(0, page));
        calls.add(() -> x.alike(page, other) ? 1 : 0);
        calls.add(() -> x.alike(0, page) ? 1 : 0);
        calls.add(() -> x.alike(page, page) ? 1 : 0);
        calls.add(() -> x.whose(page, other));
        calls.add(() -> x.gone(page, other) ? 1 : 0);
        return calls;
    }

    private static void noSuchPage() {
        CHECK.sentence("NoSuchElementException: no such PAGE (as everywhere)");
        for (int writers : new int[] {1, 2, 5}) {
            PenPage x = new PenPage();
            x.writers(writers);
            x.set(0, 0, 97);
            for (int page : new int[] {-1, writers, 5, 6, LEAST, MOST}) {
                for (int other : new int[] {0, -1, MOST}) {
                    int which = 0;
                    for (Check.Call call : calls(x, page, other)) {
                        CHECK.due("call " + which++ + " of page " + page + " of " + writers, Check.NO_SUCH, call);
                    }
                }
            }
            CHECK.due("nothing is counted as an act", 0, () -> x.count(2));
            CHECK.due("nor as a packet", 0, () -> x.count(3));
            CHECK.due("nothing came", 1, () -> x.page(0, 10));
        }
    }

    private static void pageWhat() {
        CHECK.sentence("10 and w STEPS of that WRITER. NoSuchElementException: no such PAGE (as everywhere), what");
        for (int writers = 1; writers <= 5; writers++) {
            PenPage x = new PenPage();
            x.writers(writers);
            for (int what = -2; what <= 20; what++) {
                int w = what;
                boolean can = what >= 0 && what <= 4 || what >= 10 && what < 10 + writers;
                CHECK.due("what " + what + " of " + writers + " writers", can ? 0 : Check.NO_SUCH, () -> x.page(0, w));
            }
            CHECK.due("least", Check.NO_SUCH, () -> x.page(0, LEAST));
            CHECK.due("most", Check.NO_SUCH, () -> x.page(0, MOST));
        }
    }

    private static void textWhat() {
        CHECK.sentence("0 SIGN, 1 MARK, 2 how many NUMBERS THE KEY has now, 10 and k its k-th NUMBER");
        PenPage x = new PenPage();
        int[] longest = new int[24];
        Arrays.setAll(longest, k -> 8 + 33 * k);
        Bytes.hear(x, 0, Bytes.set(1, 1, 1, 126, longest));
        Bytes.hear(x, 0, Bytes.set(1, 2, 1, 32, 799));
        int[] due = {126, 101, 24};
        for (int what = 0; what <= 2; what++) {
            int w = what;
            CHECK.due("what " + what, due[w], () -> x.text(0, 0, w));
        }
        for (int k = 0; k < 24; k++) {
            int at = k;
            CHECK.due("number " + k, longest[k], () -> x.text(0, 0, 10 + at));
        }
        for (int what : new int[] {-1, 3, 9, 34, LEAST, MOST}) {
            CHECK.due("what " + what, Check.NO_SUCH, () -> x.text(0, 0, what));
        }
        CHECK.due("a key of one", 799, () -> x.text(0, 1, 10));
        CHECK.due("has no second", Check.NO_SUCH, () -> x.text(0, 1, 11));
        Bytes.hear(x, 0, Bytes.move(1, 3, 2, new int[] {102, 8, 9}, new int[] {101, 700}));
        CHECK.due("moved: two numbers", 2, () -> x.text(0, 0, 2));
        CHECK.due("the second", 9, () -> x.text(0, 0, 11));
        CHECK.due("no third", Check.NO_SUCH, () -> x.text(0, 0, 12));
        CHECK.due("moved: one number", 1, () -> x.text(0, 1, 2));
        CHECK.due("it is the move's", 700, () -> x.text(0, 1, 10));
        CHECK.due("no second", Check.NO_SUCH, () -> x.text(0, 1, 11));
        CHECK.due("the sign is its own", 126, () -> x.text(0, 1, 0));
        CHECK.due("the mark too", 101, () -> x.text(0, 1, 1));
    }

    private static void textPlaces() {
        CHECK.sentence("Of the i-th of THE TEXT .. NoSuchElementException: also there is none, another what");
        PenPage x = new PenPage();
        x.set(0, 0, 97);
        x.set(0, 1, 98);
        x.set(0, 2, 99);
        x.strike(0, 1);
        CHECK.due("the first", 97, () -> x.text(0, 0, 0));
        CHECK.due("the last", 99, () -> x.text(0, 1, 0));
        for (int i : new int[] {-1, 2, 3, LEAST, MOST}) {
            for (int what : new int[] {0, 1, 2, 10, 3}) {
                CHECK.due("place " + i + ", " + what, Check.NO_SUCH, () -> x.text(0, i, what));
            }
        }
    }

    private static void stepWhat() {
        CHECK.sentence("0 KIND, 1 AGE, 2 whether it HOLDS (1), 3 the MARK of a STRIKE, the number of an UNDO's (0 of others). "
                + "NoSuchElementException: also it hasn't, another what");
        PenPage x = new PenPage();
        x.writers(5);
        for (int n = 1; n <= 60; n++) {
            x.set(4, 0, 97);
            x.send(4, 0, 4, n);
        }
        x.strike(0, 0);
        x.undo(0, 1);
        x.undo(0, 2);
        x.move(0, 0, 0, 1);
        int[][] due = {{1, 61, 1, 460}, {2, 62, 0, 1}, {2, 63, 1, 2}, {3, 64, 1, 0}};
        for (int n = 1; n <= 4; n++) {
            for (int what = 0; what <= 3; what++) {
                int number = n;
                int w = what;
                CHECK.due("step " + n + ", " + what, due[n - 1][what], () -> x.step(0, 0, number, w));
            }
        }
        CHECK.due("the last there can be", 60, () -> x.step(0, 4, 60, 1));
        CHECK.due("a set has no mark to tell", 0, () -> x.step(0, 4, 60, 3));
        for (int what : new int[] {-1, 4, 5, 10, LEAST, MOST}) {
            CHECK.due("what " + what, Check.NO_SUCH, () -> x.step(0, 0, 1, what));
        }
        int[][] none = {{0, 0}, {0, 5}, {0, -1}, {0, 61}, {4, 61}, {4, 0}, {1, 1}, {5, 1}, {-1, 1}, {0, LEAST}, {0, MOST}, {LEAST, 1},
            {MOST, 1}, {-1, 61}, {3, 121}};
        for (int[] s : none) {
            CHECK.due("step " + Arrays.toString(s), Check.NO_SUCH, () -> x.step(0, s[0], s[1], 0));
        }
    }

    private static void stepHolds() {
        CHECK.sentence("2 whether it HOLDS (1)");
        PenPage x = new PenPage();
        x.set(0, 0, 97);
        CHECK.due("holds", 1, () -> x.step(0, 0, 1, 2));
        x.undo(0, 1);
        CHECK.due("undone", 0, () -> x.step(0, 0, 1, 2));
        CHECK.due("the undo holds", 1, () -> x.step(0, 0, 2, 2));
        x.send(0, 1, 0, 1);
        CHECK.due("on a page without the undo it holds", 1, () -> x.step(1, 0, 1, 2));
        CHECK.due("here it doesn't", 0, () -> x.step(0, 0, 1, 2));
        x.send(0, 1, 0, 2);
        CHECK.due("nor there now", 0, () -> x.step(1, 0, 1, 2));
    }

    private static void whoseWriter() {
        CHECK.sentence("How many of THE TEXT are of a WRITER. NoSuchElementException: also no such WRITER");
        PenPage x = new PenPage();
        x.writers(5);
        for (int w = 0; w < 5; w++) {
            for (int n = 1; n <= w + 1; n++) {
                x.set(w, 0, 97);
                x.send(w, 2, w, n);
            }
        }
        for (int w = 0; w < 5; w++) {
            int writer = w;
            CHECK.due("of " + w, w + 1, () -> x.whose(2, writer));
        }
        for (int writer : new int[] {-1, 5, 6, LEAST, MOST}) {
            CHECK.due("of " + writer, Check.NO_SUCH, () -> x.whose(2, writer));
        }
        CHECK.due("none of 4 on page 0", 0, () -> x.whose(0, 4));
        x.strike(0, 0);
        CHECK.due("the only one is struck", 0, () -> x.whose(0, 0));
        PenPage y = new PenPage();
        CHECK.due("of an empty text", 0, () -> y.whose(0, 1));
        CHECK.due("no third writer", Check.NO_SUCH, () -> y.whose(0, 2));
        PenPage z = new PenPage();
        for (int n = 0; n < 60; n++) {
            z.set(0, 0, 97);
        }
        CHECK.due("all 60", 60, () -> z.whose(0, 0));
        CHECK.due("none of the other", 0, () -> z.whose(0, 1));
    }

    private static void goneMark() {
        CHECK.sentence("Whether a MARK (by its number) is GONE on a PAGE. NoSuchElementException: also it has no such MARK");
        PenPage x = new PenPage();
        x.set(0, 0, 97);
        x.strike(0, 0);
        x.undo(0, 2);
        x.move(0, 0, 0, 0);
        x.set(0, 0, 97);
        x.set(1, 0, 97);
        x.send(1, 0, 1, 1);
        Bytes.hear(x, 0, Bytes.set(1, 3, 1, 97, 8));
        for (int mark : new int[] {1, 5, 101}) {
            CHECK.due("a mark: " + mark, 0, () -> x.gone(0, mark) ? 1 : 0);
        }
        int[] none = {0, 2, 3, 4, 6, 60, 61, 99, 100, 102, 103, 160, 161, 200, 201, 401, 460, 500, 501, 1001, -1, -99, -100, -101, LEAST, MOST};
        for (int mark : none) {
            CHECK.due("no mark: " + mark, Check.NO_SUCH, () -> x.gone(0, mark) ? 1 : 0);
        }
        CHECK.due("not on the other page", Check.NO_SUCH, () -> x.gone(1, 1) ? 1 : 0);
        x.undo(0, 1);
        CHECK.due("a set that doesn't hold is a mark", 0, () -> x.gone(0, 1) ? 1 : 0);
    }

    private static void asksChangeNothing() {
        CHECK.sentence("Nothing is promised beyond the answers and state changes described above");
        PenPage x = busy();
        for (int round = 0; round < 2; round++) {
            CHECK.due("count", 1, () -> x.count(2));
            CHECK.due("text of page 0", 1, () -> x.page(0, 1));
            CHECK.due("text of page 1", 2, () -> x.page(1, 1));
            CHECK.due("marks of page 0", 1, () -> x.page(0, 0));
            CHECK.due("marks of page 1", 2, () -> x.page(1, 0));
            CHECK.due("text of page 1", 99, () -> x.text(1, 1, 0));
            CHECK.due("text of page 0", 97, () -> x.text(0, 0, 0));
            CHECK.due("packet", 15, () -> x.packet(1, 1, 2, PenPage.NONE));
            CHECK.due("fewest", 3, () -> x.fewest(0, 1));
            CHECK.due("whose", 2, () -> x.whose(1, 1));
            CHECK.due("story", 1, () -> x.story(0));
        }
    }

    /** The text of a page is asked ahead of each kind of change and behind it: no answer is an old one. */
    private static void answersAfterEachChange() {
        CHECK.sentence("1 the length of THE TEXT");
        PenPage x = new PenPage();
        length("at first", 0, x);
        x.set(0, 0, 97);
        length("set", 1, x);
        x.strike(0, 0);
        length("strike", 0, x);
        x.undo(0, 2);
        length("undo", 1, x);
        x.set(1, 0, 98);
        length("another page's set", 1, x);
        x.send(1, 0, 1, 1);
        length("send", 2, x);
        x.image();
        Bytes.hear(x, 0, Bytes.set(1, 2, 5, 99, 8));
        length("hear", 3, x);
        x.restore();
        length("restore", 2, x);
        x.move(0, 0, 0, 2);
        CHECK.due("move", 101, () -> x.text(0, 0, 1));
        x.writers(2);
        length("writers", 0, x);
    }

    private static void length(String what, int due, PenPage x) {
        CHECK.due(what, due, () -> x.page(0, 1));
    }
}
