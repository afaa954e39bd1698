/** Promises 1 to 6: a new object, writers, count, page, text, step. */
public final class PagesTest {
    private static final Check CHECK = new Check();

    public static void main(String[] args) {
        newObject();
        writers();
        writersAnew();
        tapeBehindWriters();
        counts();
        pageAnswers();
        textAnswers();
        stepAnswers();
        CHECK.finish();
    }

    private static void newObject() {
        PenPage x = new PenPage();
        CHECK.due("1: writers", 2, () -> x.count(0));
        for (int i = 1; i <= 6; i++) {
            int what = i;
            CHECK.due("1: count " + what, 0, () -> x.count(what));
        }
        for (int i = 0; i <= 4; i++) {
            int what = i;
            CHECK.due("1: page 0 " + what, 0, () -> x.page(0, what));
            CHECK.due("1: page 1 " + what, 0, () -> x.page(1, what));
        }
        CHECK.due("1: fault", PenPage.NONE, x::fault);
        CHECK.due("1: restore", 0, () -> x.restore() ? 1 : 0);
        CHECK.due("NONE", -1, () -> PenPage.NONE);
    }

    private static void writers() {
        PenPage x = new PenPage();
        for (int n : new int[] {0, -1, 6, Integer.MIN_VALUE, Integer.MAX_VALUE}) {
            CHECK.dueDeed("2: writers " + n, Check.ILLEGAL, () -> x.writers(n));
        }
        CHECK.due("2: refused, so still two", 2, () -> x.count(0));
        for (int n = 1; n <= 5; n++) {
            int many = n;
            CHECK.dueDeed("2: writers " + n, 0, () -> x.writers(many));
            CHECK.due("2: count", many, () -> x.count(0));
            CHECK.due("2: last page", 0, () -> x.page(many - 1, 0));
            CHECK.due("2: no page more", Check.NO_SUCH, () -> x.page(many, 0));
        }
    }

    private static void writersAnew() {
        PenPage x = new PenPage();
        x.set(0, 0, 97);
        x.set(0, 9, 97);
        x.say(97);
        x.act(0, 0, 97);
        x.say(1);
        x.feed(0, 0, 0, 0, 0);
        x.hear(0, 20);
        x.set(1, 0, 97);
        x.set(1, 1, 98);
        x.send(1, 0, 1, 2);
        x.feed(0, 0, 0, 0, 0);
        x.image();
        CHECK.due("2: held before", 1, () -> x.page(0, 2));
        CHECK.due("2: fault before", 2, x::fault);
        x.writers(2);
        CHECK.due("2: no marks", 0, () -> x.page(0, 0));
        CHECK.due("2: none held", 0, () -> x.page(0, 2));
        CHECK.due("2: no age", 0, () -> x.page(0, 4));
        CHECK.due("2: no steps", 0, () -> x.page(1, 11));
        CHECK.due("2: the tape stays", 20, () -> x.count(1));
        CHECK.due("2: the latest fault stays", 2, x::fault);
        CHECK.due("2: STATUS 0 stays", 1, () -> x.count(2));
        CHECK.due("2: STATUS 1 stays", 1, () -> x.count(3));
        CHECK.due("2: STATUS 2 stays", 1, () -> x.count(4));
        CHECK.due("2: acts stay", 1, () -> x.count(5));
        CHECK.due("2: signs stay", 1, () -> x.count(6));
        CHECK.due("2: the story stays", 1, () -> x.story(0));
        CHECK.due("2: the image is gone", 0, () -> x.restore() ? 1 : 0);
        CHECK.due("2: steps begin again", 1, () -> x.set(0, 0, 97));
    }

    /** Bytes that came ahead of writers() are heard behind it, by the writers that there are then. */
    private static void tapeBehindWriters() {
        PenPage x = new PenPage();
        x.writers(3);
        // Writer 2's first step: a set of 'a' under the key 402.
        x.feed(0x00020100, 0x00000000, 0x00016101, 0x0192F900, 0);
        x.writers(3);
        CHECK.due("3: the tape behind writers", 20, () -> x.count(1));
        CHECK.due("13: its bytes stay", 2, () -> x.hear(0, 15));
        CHECK.due("13: it is empty then", 0, () -> x.count(1));
        CHECK.due("5: the mark heard", 201, () -> x.text(0, 0, 1));
        x.feed(0x00020100, 0x00000000, 0x00016101, 0x0192F900, 0);
        x.writers(2);
        CHECK.due("14: no fault stays none", PenPage.NONE, x::fault);
        CHECK.due("12: more come behind", 40, () -> x.feed(0, 0, 0, 0, 0));
        CHECK.due("13: no such writer now", 12, () -> x.hear(0, 15));
        CHECK.due("14: its place", 1, x::fault);
        x.writers(5);
        CHECK.due("14: stays behind writers", 1, x::fault);
        CHECK.dueDeed("2: refused", Check.ILLEGAL, () -> x.writers(0));
        CHECK.due("14: stays behind a refused one", 1, x::fault);
    }

    private static void counts() {
        PenPage x = new PenPage();
        x.writers(4);
        x.feed(1, 2, 3, 4, 5);
        x.feed(1, 2, 3, 4, 5);
        x.strike(0, 0);
        x.say(50);
        x.say(51);
        x.act(2, 0, 50);
        x.act(3, 0, 50);
        x.act(0, 0, 31);
        CHECK.due("3: writers", 4, () -> x.count(0));
        CHECK.due("3: tape", 40, () -> x.count(1));
        CHECK.due("3: STATUS 0", 1, () -> x.count(2));
        CHECK.due("3: STATUS 1", 0, () -> x.count(3));
        CHECK.due("3: STATUS 2", 2, () -> x.count(4));
        CHECK.due("3: acts", 1, () -> x.count(5));
        CHECK.due("3: signs", 2, () -> x.count(6));
        for (int what : new int[] {-1, 7, 10, Integer.MIN_VALUE, Integer.MAX_VALUE}) {
            CHECK.due("3: count " + what, Check.NO_SUCH, () -> x.count(what));
        }
    }

    private static void pageAnswers() {
        PenPage x = new PenPage();
        x.set(0, 0, 97);
        x.set(0, 1, 98);
        x.strike(0, 0);
        x.undo(0, 2);
        x.send(0, 1, 0, 4);
        CHECK.due("4: marks, struck and undone ones too", 2, () -> x.page(0, 0));
        CHECK.due("4: text", 0, () -> x.page(0, 1));
        CHECK.due("4: held", 0, () -> x.page(0, 2));
        CHECK.due("4: held of page 1", 1, () -> x.page(1, 2));
        CHECK.due("4: gone", 0, () -> x.page(0, 3));
        CHECK.due("4: age", 4, () -> x.page(0, 4));
        CHECK.due("4: a held step has no age here", 0, () -> x.page(1, 4));
        CHECK.due("4: steps of 0", 4, () -> x.page(0, 10));
        CHECK.due("4: steps of 1", 0, () -> x.page(0, 11));
        for (int what : new int[] {-1, 5, 9, 12, 15, Integer.MIN_VALUE, Integer.MAX_VALUE}) {
            CHECK.due("4: page 0, " + what, Check.NO_SUCH, () -> x.page(0, what));
        }
        for (int page : new int[] {-1, 2, 5, Integer.MIN_VALUE, Integer.MAX_VALUE}) {
            CHECK.due("4: page " + page, Check.NO_SUCH, () -> x.page(page, 0));
        }
    }

    private static void textAnswers() {
        PenPage x = new PenPage();
        x.set(1, 0, 32);
        x.set(1, 1, 126);
        CHECK.due("5: sign", 32, () -> x.text(1, 0, 0));
        CHECK.due("5: sign of the next", 126, () -> x.text(1, 1, 0));
        CHECK.due("5: mark", 102, () -> x.text(1, 1, 1));
        CHECK.due("5: key length", 1, () -> x.text(1, 1, 2));
        CHECK.due("5: key", 401, () -> x.text(1, 0, 10));
        CHECK.due("5: key of the next", 601, () -> x.text(1, 1, 10));
        x.move(1, 1, 1, 0);
        CHECK.due("5: a moved one has the sign of its own", 126, () -> x.text(1, 0, 0));
        CHECK.due("5: and the key now", 201, () -> x.text(1, 0, 10));
        for (int what : new int[] {-1, 3, 9, 11, Integer.MIN_VALUE, Integer.MAX_VALUE}) {
            CHECK.due("5: text what " + what, Check.NO_SUCH, () -> x.text(1, 0, what));
        }
        for (int i : new int[] {-1, 2, Integer.MIN_VALUE, Integer.MAX_VALUE}) {
            CHECK.due("5: text " + i, Check.NO_SUCH, () -> x.text(1, i, 0));
        }
        CHECK.due("5: empty page", Check.NO_SUCH, () -> x.text(0, 0, 0));
        CHECK.due("5: no such page", Check.NO_SUCH, () -> x.text(2, 0, 0));
    }

    private static void stepAnswers() {
        PenPage x = new PenPage();
        x.set(1, 0, 97);
        x.send(1, 0, 1, 1);
        x.strike(0, 0);
        x.undo(0, 1);
        x.move(0, 0, 0, 0);
        int[][] due = {{1, 2, 0, 101}, {2, 3, 1, 1}, {3, 4, 1, 0}};
        for (int n = 1; n <= 3; n++) {
            for (int w = 0; w <= 3; w++) {
                int number = n;
                int what = w;
                CHECK.due("6: step " + n + ", " + w, due[n - 1][w], () -> x.step(0, 0, number, what));
            }
        }
        CHECK.due("6: a set", 0, () -> x.step(0, 1, 1, 0));
        CHECK.due("6: a set's age", 1, () -> x.step(0, 1, 1, 1));
        CHECK.due("6: of others 0", 0, () -> x.step(0, 1, 1, 3));
        for (int what : new int[] {-1, 4, 10}) {
            CHECK.due("6: what " + what, Check.NO_SUCH, () -> x.step(0, 0, 1, what));
        }
        for (int number : new int[] {-1, 0, 4, 60, 61, Integer.MAX_VALUE, Integer.MIN_VALUE}) {
            CHECK.due("6: number " + number, Check.NO_SUCH, () -> x.step(0, 0, number, 0));
        }
        for (int writer : new int[] {-1, 2, 5, Integer.MAX_VALUE, Integer.MIN_VALUE}) {
            CHECK.due("6: writer " + writer, Check.NO_SUCH, () -> x.step(0, writer, 1, 0));
        }
        CHECK.due("6: not there yet", Check.NO_SUCH, () -> x.step(1, 0, 1, 0));
        CHECK.due("6: no such page", Check.NO_SUCH, () -> x.step(-1, 0, 1, 0));
    }
}
