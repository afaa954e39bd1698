/** Promises 7 to 10: set, strike, undo, move; with them THE ROW, NEW KEYS and what HOLDS. */
public final class ActsTest {
    private static final Check CHECK = new Check();

    public static void main(String[] args) {
        setRefused();
        setKeys();
        setBehindHidden();
        setAmongLikeKeys();
        setWithoutKey();
        sixtySteps();
        ages();
        strikes();
        undoes();
        undoOfGone();
        movesRefused();
        moveKeys();
        moveRanks();
        moveWithoutKey();
        noSuchPage();
        CHECK.finish();
    }

    private static void key(String what, PenPage x, int page, int i, int... numbers) {
        CHECK.due(what + ": length of the key", numbers.length, () -> x.text(page, i, 2));
        for (int k = 0; k < numbers.length; k++) {
            int at = k;
            CHECK.due(what + ": number " + k, numbers[k], () -> x.text(page, i, 10 + at));
        }
    }

    private static void marks(String what, PenPage x, int page, int... marks) {
        CHECK.due(what + ": length", marks.length, () -> x.page(page, 1));
        for (int i = 0; i < marks.length; i++) {
            int at = i;
            CHECK.due(what + ": mark at " + i, marks[i], () -> x.text(page, at, 1));
        }
    }

    private static void setRefused() {
        PenPage x = new PenPage();
        int[][] wrong = {{-1, 97}, {1, 97}, {Integer.MIN_VALUE, 97}, {Integer.MAX_VALUE, 97}, {0, 31}, {0, 127}, {0, -1}};
        for (int[] call : wrong) {
            CHECK.due("7: set " + call[0] + ", " + call[1], PenPage.NONE, () -> x.set(0, call[0], call[1]));
        }
        CHECK.due("7: refused calls are counted", wrong.length, () -> x.count(2));
        CHECK.due("7: nothing was set", 0, () -> x.page(0, 10));
        CHECK.due("7: least sign", 1, () -> x.set(0, 0, 32));
        CHECK.due("7: greatest sign", 2, () -> x.set(0, 1, 126));
        CHECK.due("7: behind the end", PenPage.NONE, () -> x.set(0, 3, 97));
    }

    private static void setKeys() {
        PenPage x = new PenPage();
        int[] first = {400, 200, 96, 48, 24, 8};
        for (int i = 0; i < first.length; i++) {
            x.set(0, 0, 97);
            key("7: set ahead of all, " + i, x, 0, 0, first[i]);
        }
        x.set(0, 0, 97);
        key("7: no room ahead in the first number", x, 0, 0, 0, 400);
        x.set(0, 1, 97);
        key("7: between 0 400 and 8", x, 0, 1, 0, 600);
        x.set(0, 0, 97);
        key("7: ahead of 0 400", x, 0, 0, 0, 200);
        x.set(0, x.page(0, 1), 97);
        key("7: at the end", x, 0, x.page(0, 1) - 1, 600);

        PenPage y = new PenPage();
        y.writers(5);
        y.set(4, 0, 97);
        key("7: the writer's number is in the key", y, 4, 0, 404);
        y.set(4, 1, 97);
        key("7: both are cut down first", y, 4, 1, 604);
        y.set(4, 1, 97);
        key("7: half is cut down", y, 4, 1, 500);
    }

    private static void setBehindHidden() {
        PenPage x = new PenPage();
        x.set(0, 0, 97);
        x.set(0, 1, 98);
        x.strike(0, 0);
        x.set(0, 0, 99);
        key("7: ahead of all of THE ROW, struck ones too", x, 0, 0, 200);
        x.set(0, 1, 100);
        key("7: the next in THE ROW is the struck one", x, 0, 1, 296);
        x.undo(0, 2);
        x.set(0, 2, 101);
        key("7: and the undone one", x, 0, 2, 344);
    }

    private static void setAmongLikeKeys() {
        PenPage x = new PenPage();
        Bytes.hear(x, 0, Bytes.set(1, 1, 1, 98, 400));
        Bytes.hear(x, 0, Bytes.set(0, 1, 1, 97, 400));
        marks("like keys go by numbers", x, 0, 1, 101);
        x.set(0, 1, 99);
        key("b is none behind like keys at the end", x, 0, 2, 600);
        x.set(0, 1, 100);
        key("b is the next one with another key", x, 0, 2, 496);
        marks("behind both", x, 0, 1, 101, 3, 2);
        Bytes.hear(x, 0, Bytes.set(1, 2, 1, 101, 400, 8));
        marks("a beginning comes ahead", x, 0, 1, 101, 102, 3, 2);
        x.set(0, 2, 102);
        key("between 400 and 400 8", x, 0, 2, 400, 0, 400);
    }

    private static void setWithoutKey() {
        PenPage x = new PenPage();
        int[] longest = new int[24];
        longest[23] = 8;
        CHECK.due("a key of 24", 2, () -> Bytes.hear(x, 0, Bytes.set(1, 1, 1, 97, longest)));
        CHECK.due("7: there is no key ahead of it", PenPage.NONE, () -> x.set(0, 0, 97));
        CHECK.due("7: there is one behind it", 1, () -> x.set(0, 1, 97));
        CHECK.due("7: counted", 1, () -> x.count(2));

        PenPage y = new PenPage();
        int[] shorter = new int[23];
        shorter[22] = 8;
        Bytes.hear(y, 0, Bytes.set(1, 1, 1, 97, shorter));
        CHECK.due("7: a key of just 24", 1, () -> y.set(0, 0, 97));
        CHECK.due("7: its length", 24, () -> y.text(0, 0, 2));
        CHECK.due("7: its last", 400, () -> y.text(0, 0, 33));
        CHECK.due("7: none more", Check.NO_SUCH, () -> y.text(0, 0, 34));
    }

    private static void sixtySteps() {
        PenPage x = new PenPage();
        for (int n = 1; n <= 60; n++) {
            int number = n;
            CHECK.due("7: step " + n, n, () -> x.set(0, (number - 1) / 2, 97));
        }
        CHECK.due("7: 60 steps, set", PenPage.NONE, () -> x.set(0, 0, 97));
        CHECK.due("8: 60 steps, strike", PenPage.NONE, () -> x.strike(0, 0));
        CHECK.due("9: 60 steps, undo", PenPage.NONE, () -> x.undo(0, 1));
        CHECK.due("10: 60 steps, move", PenPage.NONE, () -> x.move(0, 0, 0, 0));
        CHECK.due("60 steps: counted", 4, () -> x.count(2));
        CHECK.due("another writer goes on", 1, () -> x.set(1, 0, 97));
        for (int n = 1; n <= 60; n++) {
            x.send(0, 1, 0, n);
        }
        int place = 0;
        while (x.text(1, place, 1) != 60) {
            place++;
        }
        int last = place;
        CHECK.due("8: the 60th mark", 2, () -> x.strike(1, last));
        CHECK.due("8: is struck", 60, () -> x.page(1, 1));
        CHECK.due("8: by its number", 60, () -> x.step(1, 1, 2, 3));
    }

    private static void ages() {
        PenPage x = new PenPage();
        Bytes.hear(x, 0, Bytes.set(1, 1, 65534, 97, 400));
        CHECK.due("7: the last age", 1, () -> x.set(0, 0, 97));
        CHECK.due("7: it is 65535", 65535, () -> x.step(0, 0, 1, 1));
        CHECK.due("7: above it, set", PenPage.NONE, () -> x.set(0, 0, 97));
        CHECK.due("8: above it, strike", PenPage.NONE, () -> x.strike(0, 0));
        CHECK.due("9: above it, undo", PenPage.NONE, () -> x.undo(0, 1));
        CHECK.due("10: above it, move", PenPage.NONE, () -> x.move(0, 0, 0, 0));
        CHECK.due("page 1 has not heard it", 1, () -> x.set(1, 0, 97));
        CHECK.due("age 1 without any", 1, () -> x.step(1, 1, 1, 1));
    }

    private static void strikes() {
        PenPage x = new PenPage();
        CHECK.due("8: empty text", PenPage.NONE, () -> x.strike(0, 0));
        x.set(0, 0, 97);
        x.set(0, 1, 98);
        x.set(0, 2, 99);
        for (int place : new int[] {-1, 3, Integer.MIN_VALUE, Integer.MAX_VALUE}) {
            CHECK.due("8: strike " + place, PenPage.NONE, () -> x.strike(0, place));
        }
        CHECK.due("8: counted", 5, () -> x.count(2));
        CHECK.due("8: strike", 4, () -> x.strike(0, 1));
        marks("8: struck", x, 0, 1, 3);
        CHECK.due("8: its mark", 2, () -> x.step(0, 0, 4, 3));
        CHECK.due("8: the last", 5, () -> x.strike(0, 1));
        CHECK.due("8: it shows no more", PenPage.NONE, () -> x.strike(0, 1));
        x.send(0, 1, 0, 1);
        x.strike(1, 0);
        x.send(1, 0, 1, 1);
        marks("8: struck by another", x, 0);
    }

    private static void undoes() {
        PenPage x = new PenPage();
        x.set(0, 0, 97);
        x.strike(0, 0);
        for (int number : new int[] {0, -1, 3, 60, 61, Integer.MIN_VALUE, Integer.MAX_VALUE}) {
            CHECK.due("9: undo " + number, PenPage.NONE, () -> x.undo(0, number));
        }
        CHECK.due("9: counted", 7, () -> x.count(2));
        CHECK.due("9: undo", 3, () -> x.undo(0, 2));
        marks("9: the strike is undone", x, 0, 1);
        CHECK.due("9: it doesn't hold any more", PenPage.NONE, () -> x.undo(0, 2));
        CHECK.due("9: undo of an undo", 4, () -> x.undo(0, 3));
        marks("9: struck again", x, 0);
        CHECK.due("9: undo of that", 5, () -> x.undo(0, 4));
        marks("9: shown again", x, 0, 1);
        CHECK.due("9: 4 doesn't hold", 0, () -> x.step(0, 0, 4, 2));
        CHECK.due("9: 3 holds", 1, () -> x.step(0, 0, 3, 2));
        CHECK.due("9: 2 doesn't", 0, () -> x.step(0, 0, 2, 2));
        CHECK.due("9: undo of the set", 6, () -> x.undo(0, 1));
        marks("9: without the mark", x, 0);
        CHECK.due("9: another writer's step", PenPage.NONE, () -> x.undo(1, 1));
    }

    private static void undoOfGone() {
        PenPage x = new PenPage();
        x.writers(1);
        x.set(0, 0, 97);
        x.strike(0, 0);
        CHECK.due("9: one writer's strike is all", 1, () -> x.gone(0, 1) ? 1 : 0);
        CHECK.due("9: so it is not undone", PenPage.NONE, () -> x.undo(0, 2));
        CHECK.due("9: but the set is", 3, () -> x.undo(0, 1));
        CHECK.due("9: it is gone still", 1, () -> x.gone(0, 1) ? 1 : 0);
    }

    private static void movesRefused() {
        PenPage x = new PenPage();
        CHECK.due("10: empty text", PenPage.NONE, () -> x.move(0, 0, 0, 0));
        for (int i = 0; i < 8; i++) {
            x.set(0, i, 97 + i);
        }
        int most = Integer.MAX_VALUE;
        int least = Integer.MIN_VALUE;
        int[][] wrong = {{-1, 0, 0}, {0, 8, 8}, {2, 1, 0}, {0, 6, 7}, {1, 7, 0}, {2, 4, 3}, {2, 4, 4}, {2, 4, -1}, {2, 4, 9},
            {least, most, 0}, {most, least, 0}, {0, most, 0}, {least, 0, 0}, {0, 0, most}, {0, 0, least}, {7, most, 0}};
        for (int[] m : wrong) {
            CHECK.due("10: move " + m[0] + " to " + m[1] + " at " + m[2], PenPage.NONE, () -> x.move(0, m[0], m[1], m[2]));
        }
        CHECK.due("10: counted", wrong.length + 1, () -> x.count(2));
        CHECK.due("10: six", 9, () -> x.move(0, 1, 6, 8));
        marks("10: six moved", x, 0, 1, 8, 2, 3, 4, 5, 6, 7);
        CHECK.due("10: at from", 10, () -> x.move(0, 2, 4, 2));
        marks("10: ahead of itself", x, 0, 1, 8, 2, 3, 4, 5, 6, 7);
        CHECK.due("10: at behind to", 11, () -> x.move(0, 2, 4, 5));
        marks("10: behind itself", x, 0, 1, 8, 2, 3, 4, 5, 6, 7);
    }

    private static void moveKeys() {
        PenPage x = new PenPage();
        x.set(0, 0, 97);
        x.set(0, 1, 98);
        x.set(0, 2, 99);
        x.strike(0, 1);
        x.move(0, 1, 1, 1);
        key("10: the next in THE ROW is the struck one", x, 0, 1, 496);
        x.move(0, 0, 1, 0);
        key("10: ahead of all", x, 0, 0, 200);
        key("10: the next one behind it, b stays", x, 0, 1, 296);
        x.undo(0, 6);
        key("10: undone", x, 0, 0, 400);
        key("10: the move ahead of it counts", x, 0, 1, 496);
        CHECK.due("10: four marks moved or not", 3, () -> x.page(0, 0));
    }

    private static void moveRanks() {
        PenPage x = new PenPage();
        Bytes.hear(x, 0, Bytes.set(1, 1, 1, 97, 400));
        CHECK.due("move of age 7", 2, () -> Bytes.hear(x, 0, Bytes.of(3, 1, 2, 7, 1, 1, 1, 1, 0, 100)));
        CHECK.due("a later one of age 6", 2, () -> Bytes.hear(x, 0, Bytes.of(3, 1, 3, 6, 1, 1, 1, 1, 0, 50)));
        key("the greater age counts", x, 0, 0, 100);
        CHECK.due("a later one of age 7", 2, () -> Bytes.hear(x, 0, Bytes.of(3, 1, 4, 7, 1, 1, 1, 1, 0, 60)));
        key("of like ones the later", x, 0, 0, 60);
        CHECK.due("undo of it", 2, () -> Bytes.hear(x, 0, Bytes.of(2, 1, 5, 1, 4)));
        key("it doesn't hold any more", x, 0, 0, 100);
    }

    private static void moveWithoutKey() {
        PenPage x = new PenPage();
        int[] shorter = new int[23];
        shorter[22] = 16;
        Bytes.hear(x, 0, Bytes.set(1, 1, 1, 97, shorter));
        Bytes.hear(x, 0, Bytes.set(1, 2, 2, 98, 400));
        int[] many = new int[8];
        java.util.Arrays.setAll(many, i -> x.set(0, 2 + i, 97));
        CHECK.due("10: one key", 9, () -> x.move(0, 1, 1, 0));
        CHECK.due("10: ahead of it none for six", PenPage.NONE, () -> {
            for (int i = 0; i < 3; i++) {
                x.move(0, 1, 1, 0);
            }
            return x.move(0, 3, 8, 0);
        });
        CHECK.due("10: the text is whole", 10, () -> x.page(0, 1));
    }

    private static void noSuchPage() {
        PenPage x = new PenPage();
        for (int page : new int[] {-1, 2, Integer.MIN_VALUE, Integer.MAX_VALUE}) {
            CHECK.due("7: page " + page, Check.NO_SUCH, () -> x.set(page, 0, 97));
            CHECK.due("8: page " + page, Check.NO_SUCH, () -> x.strike(page, 0));
            CHECK.due("9: page " + page, Check.NO_SUCH, () -> x.undo(page, 1));
            CHECK.due("10: page " + page, Check.NO_SUCH, () -> x.move(page, 0, 0, 0));
        }
        CHECK.due("what throws is not counted", 0, () -> x.count(2));
    }
}
