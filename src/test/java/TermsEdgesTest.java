import java.util.Arrays;

/** Each edge that "Terms" and "==== 2" of the document name: WRITERS, STEPS, AGES, MARKS, KEYS, what HOLDS, NEW KEYS. */
public final class TermsEdgesTest {
    private static final Check CHECK = new Check();
    private static final int[] NOTHING = null;

    public static void main(String[] args) {
        writersOneToFive();
        stepsAtMostSixty();
        sixtyWithHeardOnes();
        signs();
        undoneAhead();
        movedMarks();
        seen();
        ages();
        markNumbers();
        keyLengths();
        keyNumbers();
        keyOrder();
        likeKeys();
        holds();
        twoUndoes();
        keyNow();
        keyOfSetWithoutMove();
        shows();
        rowAndText();
        newKeyNumberByNumber();
        newKeyAtTheTop();
        newKeyGoesOn();
        newKeyOfTwentyFour();
        newKeyAmongLikeKeys();
        CHECK.finish();
    }

    /** The key of THE TEXT's i-th as one row. */
    private static int[] keyAt(PenPage x, int page, int i) {
        int[] key = new int[x.text(page, i, 2)];
        Arrays.setAll(key, k -> x.text(page, i, 10 + k));
        return key;
    }

    private static void key(String what, PenPage x, int page, int i, int... due) {
        int[] got = keyAt(x, page, i);
        CHECK.yes(what + ": the key is " + Arrays.toString(got) + ", due is " + Arrays.toString(due), Arrays.equals(got, due));
    }

    private static void marks(String what, PenPage x, int page, int... due) {
        int[] got = new int[x.page(page, 1)];
        Arrays.setAll(got, i -> x.text(page, i, 1));
        CHECK.yes(what + ": the text is " + Arrays.toString(got) + ", due is " + Arrays.toString(due), Arrays.equals(got, due));
    }

    private static void had(PenPage x, int page, int... packet) {
        CHECK.due("the packet " + Arrays.toString(packet), 2, () -> Bytes.hear(x, page, packet));
    }

    private static void writersOneToFive() {
        CHECK.sentence("WRITERS 0, 1 .. (1 to 5; 2 at first), each with a PAGE of that number");
        PenPage x = new PenPage();
        CHECK.due("2 at first", 2, () -> x.count(0));
        for (int n = 1; n <= 5; n++) {
            int many = n;
            x.writers(n);
            for (int w = 0; w < n; w++) {
                int page = w;
                CHECK.due("writer " + w + " of " + n, 1, () -> x.set(page, 0, 97));
                CHECK.due("his mark is on his page", 100 * w + 1, () -> x.text(page, 0, 1));
            }
            CHECK.due("no page " + n, Check.NO_SUCH, () -> x.set(many, 0, 97));
            CHECK.due("no writer " + n, Check.NO_SUCH, () -> x.whose(0, many));
            CHECK.due("no steps of writer " + n, Check.NO_SUCH, () -> x.page(0, 10 + many));
        }
        CHECK.due("0 writers", Check.ILLEGAL, () -> anew(x, 0));
        CHECK.due("6 writers", Check.ILLEGAL, () -> anew(x, 6));
    }

    private static long anew(PenPage x, int writers) {
        x.writers(writers);
        return 0;
    }

    private static void stepsAtMostSixty() {
        CHECK.sentence("A STEP is a WRITER's, by number (from 1 on, at most 60 each)");
        PenPage x = new PenPage();
        x.writers(4);
        for (int w = 0; w < 4; w++) {
            for (int n = 1; n <= 60; n++) {
                int page = w;
                CHECK.due("step " + n + " of writer " + w, n, () -> x.set(page, 0, 97));
            }
        }
        for (int w = 1; w < 4; w++) {
            for (int n = 1; n <= 60; n++) {
                x.send(w, 0, w, n);
            }
        }
        CHECK.due("all marks of all writers", 240, () -> x.page(0, 0));
        CHECK.due("all in the text", 240, () -> x.page(0, 1));
        CHECK.due("60 of the last", 60, () -> x.page(0, 13));
        CHECK.due("the 60th", 0, () -> x.step(0, 3, 60, 0));
        CHECK.due("no 61st", Check.NO_SUCH, () -> x.step(0, 3, 61, 0));
        CHECK.due("no step 0", Check.NO_SUCH, () -> x.step(0, 3, 0, 0));
        CHECK.due("a 61st is refused", PenPage.NONE, () -> x.set(3, 0, 97));
    }

    private static void sixtyWithHeardOnes() {
        CHECK.sentence("at most 60 each");
        PenPage x = new PenPage();
        for (int n = 1; n <= 58; n++) {
            x.set(0, 0, 97);
        }
        CHECK.due("his 60th came ahead of the 59th", 1, () -> Bytes.hear(x, 0, Bytes.set(0, 60, 60, 98, 700)));
        CHECK.due("the 59th", 59, () -> x.set(0, 0, 97));
        CHECK.due("with it he has 60", 60, () -> x.page(0, 10));
        CHECK.due("no more set", PenPage.NONE, () -> x.set(0, 0, 97));
        CHECK.due("no more strike", PenPage.NONE, () -> x.strike(0, 0));
        CHECK.due("no more undo", PenPage.NONE, () -> x.undo(0, 60));
        CHECK.due("no more move", PenPage.NONE, () -> x.move(0, 0, 0, 1));
        CHECK.due("each counted", 4, () -> x.count(2));
        CHECK.due("nothing came", 60, () -> x.page(0, 10));
    }

    private static void signs() {
        CHECK.sentence("SET (0: a SIGN, 32 to 126, and a KEY)");
        PenPage x = new PenPage();
        CHECK.due("31", PenPage.NONE, () -> x.set(0, 0, 31));
        CHECK.due("32", 1, () -> x.set(0, 0, 32));
        CHECK.due("126", 2, () -> x.set(0, 1, 126));
        CHECK.due("127", PenPage.NONE, () -> x.set(0, 0, 127));
        CHECK.due("a wrap around 256", PenPage.NONE, () -> x.set(0, 0, 256 + 97));
        CHECK.due("a wrap around 65536", PenPage.NONE, () -> x.set(0, 0, 65536 + 97));
        CHECK.due("below 0", PenPage.NONE, () -> x.set(0, 0, 97 - 256));
        CHECK.due("32 stands", 32, () -> x.text(0, 0, 0));
        CHECK.due("126 stands", 126, () -> x.text(0, 1, 0));
    }

    private static void undoneAhead() {
        CHECK.sentence("UNDO (2: a STEP of his own ahead of it)");
        PenPage x = new PenPage();
        CHECK.due("none ahead", PenPage.NONE, () -> x.undo(0, 1));
        x.set(0, 0, 97);
        CHECK.due("the one that it would be", PenPage.NONE, () -> x.undo(0, 2));
        CHECK.due("step 0", PenPage.NONE, () -> x.undo(0, 0));
        x.send(0, 1, 0, 1);
        CHECK.due("another's", PenPage.NONE, () -> x.undo(1, 1));
        CHECK.due("the one just ahead", 2, () -> x.undo(0, 1));
        CHECK.due("an undo just ahead", 3, () -> x.undo(0, 2));
    }

    private static void movedMarks() {
        CHECK.sentence("MOVE (3: 1 to 6 unlike MARKS, a KEY for each)");
        PenPage x = new PenPage();
        for (int i = 0; i < 7; i++) {
            x.set(0, i, 97);
        }
        CHECK.due("none", PenPage.NONE, () -> x.move(0, 1, 0, 0));
        CHECK.due("one", 8, () -> x.move(0, 0, 0, 0));
        CHECK.due("one by its packet", 1, () -> x.packet(0, 0, 8, 10));
        CHECK.due("six", 9, () -> x.move(0, 1, 6, 1));
        CHECK.due("six by its packet", 6, () -> x.packet(0, 0, 9, 10));
        CHECK.due("seven", PenPage.NONE, () -> x.move(0, 0, 6, 0));
    }

    private static void seen() {
        CHECK.sentence("It has SEEN: of each WRITER how many STEPS his PAGE had ahead of it (of himself all his own ones)");
        PenPage x = new PenPage();
        x.writers(3);
        x.set(1, 0, 97);
        x.set(1, 0, 97);
        x.set(1, 0, 97);
        CHECK.due("one comes", 2, () -> x.send(1, 0, 1, 1));
        CHECK.due("one is held", 1, () -> x.send(1, 0, 1, 3));
        x.set(0, 0, 97);
        x.set(0, 0, 97);
        int[] first = Bytes.read(x, 0, 0, 1);
        int[] second = Bytes.read(x, 0, 0, 2);
        CHECK.due("of himself none ahead of the first", 0, () -> first[3]);
        CHECK.due("of himself all", 1, () -> second[3]);
        CHECK.due("of 1 what was had, without the held one", 1, () -> second[4]);
        CHECK.due("of 2 none", 0, () -> second[5]);
        CHECK.due("of one that there isn't 0", 0, () -> second[6] + second[7]);
    }

    private static void ages() {
        CHECK.sentence("an AGE: one more than the greatest AGE of those (1, if there are none)");
        PenPage x = new PenPage();
        CHECK.due("held ones are none of those", 1, () -> Bytes.hear(x, 0, Bytes.set(1, 2, 500, 97, 8)));
        x.set(0, 0, 97);
        CHECK.due("1", 1, () -> x.step(0, 0, 1, 1));
        had(x, 0, Bytes.set(1, 1, 255, 97, 16));
        CHECK.due("the greatest is that of what was held", 500, () -> x.page(0, 4));
        x.set(0, 0, 97);
        CHECK.due("501", 501, () -> x.step(0, 0, 2, 1));
        had(x, 0, Bytes.set(1, 3, 7, 97, 24));
        CHECK.due("a lesser one changes nothing", 501, () -> x.page(0, 4));
        x.set(0, 0, 97);
        CHECK.due("502", 502, () -> x.step(0, 0, 3, 1));

        PenPage y = new PenPage();
        had(y, 0, Bytes.set(1, 1, 255, 97, 16));
        y.set(0, 0, 97);
        CHECK.due("256 of one more than 255", 256, () -> y.step(0, 0, 1, 1));
        CHECK.due("its first byte", 1, () -> y.packet(0, 0, 1, 8));
        CHECK.due("its second byte", 0, () -> y.packet(0, 0, 1, 9));
    }

    private static void markNumbers() {
        CHECK.sentence("its number is 100 by the WRITER and the STEP's number");
        PenPage x = new PenPage();
        x.writers(5);
        x.set(0, 0, 97);
        CHECK.due("the least", 1, () -> x.text(0, 0, 1));
        for (int n = 1; n <= 60; n++) {
            x.set(4, n - 1, 97);
        }
        CHECK.due("the greatest", 460, () -> x.text(4, 59, 1));
        CHECK.due("it is a mark", 0, () -> x.gone(4, 460) ? 1 : 0);
        CHECK.due("461 is none", Check.NO_SUCH, () -> x.gone(4, 461) ? 1 : 0);
        CHECK.due("400 is none", Check.NO_SUCH, () -> x.gone(4, 400) ? 1 : 0);
        for (int n = 1; n <= 60; n++) {
            x.send(4, 3, 4, n);
        }
        x.strike(3, 59);
        CHECK.due("the greatest is struck", 460, () -> x.step(3, 3, 1, 3));
        CHECK.due("it shows no more", 59, () -> x.page(3, 1));
        x.undo(3, 1);
        x.move(3, 59, 59, 0);
        CHECK.due("the greatest is moved", 460, () -> x.text(3, 0, 1));
        CHECK.due("1 is none there", Check.NO_SUCH, () -> x.gone(4, 1) ? 1 : 0);
    }

    private static int[] row(int many, int number, int last) {
        int[] row = new int[many];
        Arrays.fill(row, number);
        row[many - 1] = last;
        return row;
    }

    private static void keyLengths() {
        CHECK.sentence("A KEY is a row of 1 to 24 NUMBERS 0 to 799, the last one 8 or more");
        for (int many = 1; many <= 24; many++) {
            PenPage x = new PenPage();
            int[] key = row(many, 799, 8);
            had(x, 0, Bytes.set(1, 1, 1, 97, key));
            key("a key of " + many, x, 0, 0, key);
        }
        PenPage x = new PenPage();
        CHECK.due("of 0", 12, () -> Bytes.hear(x, 0, Bytes.set(1, 1, 1, 97)));
        CHECK.due("of 25", 12, () -> Bytes.hear(x, 0, Bytes.set(1, 1, 1, 97, row(25, 799, 8))));
    }

    private static void keyNumbers() {
        CHECK.sentence("NUMBERS 0 to 799, the last one 8 or more");
        int[][] can = {{8}, {799}, {0, 8}, {7, 8}, {799, 799}, {0, 0, 799}, {255, 8}, {256, 256}};
        for (int[] key : can) {
            PenPage x = new PenPage();
            had(x, 0, Bytes.set(1, 1, 1, 97, key));
            key("it can be", x, 0, 0, key);
        }
        int[][] not = {{0}, {7}, {800}, {8, 7}, {800, 8}, {65535}, {1023, 8}, {256 * 8 + 8}};
        for (int[] key : not) {
            PenPage x = new PenPage();
            CHECK.due("the key " + Arrays.toString(key), 12, () -> Bytes.hear(x, 0, Bytes.set(1, 1, 1, 97, key)));
        }
    }

    private static void keyOrder() {
        CHECK.sentence("KEYS are ordered by their first NUMBERS that are unlike; one that is the beginning of another one comes ahead");
        int[][] ordered = {{0, 0, 799}, {0, 8}, {8}, {8, 0, 8}, {8, 8}, {8, 799}, {9}, {255, 799, 799}, {256, 8}, {257}, {257, 0, 0, 8},
            {511, 799}, {512}, {798, 799}, {799}, {799, 8}};
        PenPage x = new PenPage();
        int[] due = new int[ordered.length];
        for (int n = 1; n <= ordered.length; n++) {
            // 7 shares no divisor with 16, so each comes once, out of its order.
            int which = n * 7 % ordered.length;
            due[which] = 100 + n;
            had(x, 0, Bytes.set(1, n, 1, 97, ordered[which]));
        }
        marks("by their keys", x, 0, due);
    }

    private static void likeKeys() {
        CHECK.sentence("MARKS of like KEYS are ordered by their numbers");
        PenPage x = new PenPage();
        x.writers(3);
        had(x, 0, Bytes.set(2, 1, 1, 97, 400, 8));
        had(x, 0, Bytes.set(1, 1, 9, 97, 400, 8));
        had(x, 0, Bytes.set(1, 2, 1, 97, 400, 8));
        had(x, 0, Bytes.set(0, 1, 5, 97, 400, 8));
        marks("by their numbers", x, 0, 1, 101, 102, 201);
        had(x, 0, Bytes.set(1, 3, 1, 97, 500));
        had(x, 0, Bytes.move(1, 4, 1, new int[] {103, 400, 8}));
        marks("a moved one too", x, 0, 1, 101, 102, 103, 201);
    }

    private static void holds() {
        CHECK.sentence("an UNDO that HOLDS makes that its STEP doesn't HOLD; all others HOLD");
        PenPage x = new PenPage();
        had(x, 0, Bytes.set(1, 1, 1, 97, 400));
        for (int n = 2; n <= 60; n++) {
            had(x, 0, Bytes.of(2, 1, n, n, n - 1));
            for (int back = 0; back < 3 && back < n; back++) {
                int number = n - back;
                CHECK.due("of " + n + " step " + number, back % 2 == 0 ? 1 : 0, () -> x.step(0, 1, number, 2));
            }
        }
        CHECK.due("59 undoes, so the first doesn't hold", 0, () -> x.step(0, 1, 1, 2));
        marks("nor show", x, 0);
    }

    private static void twoUndoes() {
        CHECK.sentence("Going from the last STEP of a WRITER back");
        PenPage x = new PenPage();
        had(x, 0, Bytes.set(1, 1, 1, 97, 400));
        had(x, 0, Bytes.of(2, 1, 2, 2, 1));
        had(x, 0, Bytes.of(2, 1, 3, 3, 1));
        CHECK.due("two undo it", 0, () -> x.step(0, 1, 1, 2));
        had(x, 0, Bytes.of(2, 1, 4, 4, 3));
        CHECK.due("one of them is undone, the other holds", 0, () -> x.step(0, 1, 1, 2));
        had(x, 0, Bytes.of(2, 1, 5, 5, 2));
        CHECK.due("both are undone", 1, () -> x.step(0, 1, 1, 2));
        had(x, 0, Bytes.of(2, 1, 6, 6, 4));
        CHECK.due("the undo of one is undone", 0, () -> x.step(0, 1, 1, 2));
        CHECK.due("a writer undoes no other's step", 1, () -> anothersStep());
    }

    /** Writer 1's undo of his own first step leaves that of writer 0. */
    private static int anothersStep() {
        PenPage x = new PenPage();
        x.set(0, 0, 97);
        had(x, 0, Bytes.set(1, 1, 1, 98, 500));
        had(x, 0, Bytes.of(2, 1, 2, 2, 1));
        return x.step(0, 0, 1, 2);
    }

    private static void keyNow() {
        CHECK.sentence("that of the MOVE that HOLDS and has it of the greatest AGE, of like ones of the greater WRITER, of his the later");
        PenPage x = new PenPage();
        x.writers(3);
        had(x, 0, Bytes.set(0, 1, 1, 97, 400));
        had(x, 0, Bytes.seeing(Bytes.move(2, 1, 5, new int[] {1, 100}), 0, 1));
        key("a move", x, 0, 0, 100);
        had(x, 0, Bytes.seeing(Bytes.move(1, 1, 5, new int[] {1, 200}), 0, 1));
        key("of a like age, of the lesser writer", x, 0, 0, 100);
        had(x, 0, Bytes.move(0, 2, 5, new int[] {1, 250}));
        key("of a like age, of the least writer", x, 0, 0, 100);
        had(x, 0, Bytes.seeing(Bytes.move(1, 2, 6, new int[] {1, 300}), 0, 1));
        key("of a greater age, of the lesser writer", x, 0, 0, 300);
        had(x, 0, Bytes.seeing(Bytes.move(2, 2, 5, new int[] {1, 350}), 0, 1));
        key("a later one of a lesser age", x, 0, 0, 300);
        had(x, 0, Bytes.seeing(Bytes.of(2, 1, 3, 7, 2), 0, 1));
        key("without it, of like ages of the greater writer the later", x, 0, 0, 350);
        had(x, 0, Bytes.seeing(Bytes.of(2, 2, 3, 7, 2), 0, 1));
        key("without that the one ahead", x, 0, 0, 100);
        had(x, 0, Bytes.seeing(Bytes.of(2, 2, 4, 7, 1), 0, 1));
        key("without that the next writer's", x, 0, 0, 200);
        had(x, 0, Bytes.seeing(Bytes.of(2, 1, 4, 7, 1), 0, 1));
        key("without that his own", x, 0, 0, 250);
        had(x, 0, Bytes.of(2, 0, 3, 7, 2));
        key("without one its own key", x, 0, 0, 400);
    }

    private static void keyOfSetWithoutMove() {
        CHECK.sentence("without one its own");
        PenPage x = new PenPage();
        had(x, 0, Bytes.set(1, 1, 900, 97, 400));
        had(x, 0, Bytes.set(1, 2, 900, 98, 500));
        had(x, 0, Bytes.move(1, 3, 2, new int[] {101, 600}));
        key("a move counts though the set's age is greater", x, 0, 1, 600);
        key("the other has its own", x, 0, 0, 500);
        marks("by the keys now", x, 0, 102, 101);
        had(x, 0, Bytes.move(1, 4, 3, new int[] {102, 100}));
        key("a later move of another mark leaves the key", x, 0, 1, 600);
        had(x, 0, Bytes.seeing(Bytes.move(0, 1, 2, new int[] {102, 700}), 1, 2));
        key("an older move of the other mark", x, 0, 0, 100);
        had(x, 0, Bytes.seeing(Bytes.move(0, 2, 4, new int[] {102, 700}), 1, 2));
        key("a newer one", x, 0, 1, 700);
    }

    private static void shows() {
        CHECK.sentence("It SHOWS, if it HOLDS and no STRIKE of it HOLDS");
        PenPage x = new PenPage();
        had(x, 0, Bytes.set(1, 1, 1, 97, 400));
        had(x, 0, Bytes.of(1, 1, 2, 2, 1, 1));
        had(x, 0, Bytes.of(1, 1, 3, 3, 1, 1));
        marks("two strikes", x, 0);
        had(x, 0, Bytes.of(2, 1, 4, 4, 2));
        marks("one of two is undone", x, 0);
        had(x, 0, Bytes.of(2, 1, 5, 5, 3));
        marks("both are undone", x, 0, 101);
        had(x, 0, Bytes.of(2, 1, 6, 6, 1));
        marks("the set is undone", x, 0);
        had(x, 0, Bytes.of(2, 1, 7, 7, 6));
        marks("it isn't any more", x, 0, 101);
    }

    private static void rowAndText() {
        CHECK.sentence("THE ROW of a PAGE: all its MARKS by KEYS now; THE TEXT: those that SHOW");
        PenPage x = new PenPage();
        CHECK.due("an empty row", 0, () -> x.page(0, 0));
        CHECK.due("an empty text", 0, () -> x.page(0, 1));
        x.set(0, 0, 97);
        x.strike(0, 0);
        CHECK.due("a row of one that doesn't show", 1, () -> x.page(0, 0));
        CHECK.due("its text is empty", 0, () -> x.page(0, 1));
        CHECK.due("nothing at 0", Check.NO_SUCH, () -> x.text(0, 0, 0));
        x.set(0, 0, 98);
        CHECK.due("a row of two", 2, () -> x.page(0, 0));
        CHECK.due("a text of one", 1, () -> x.page(0, 1));
        CHECK.due("it is the one that shows", 3, () -> x.text(0, 0, 1));
    }

    /** The key that a writer's set gets between two marks of another one; null if it is refused. */
    private static int[] grown(int writer, int[] a, int[] b) {
        PenPage x = new PenPage();
        x.writers(5);
        int other = (writer + 1) % 5;
        int number = 1;
        if (a != null) {
            had(x, writer, Bytes.set(other, number++, 1, 97, a));
        }
        if (b != null) {
            had(x, writer, Bytes.set(other, number++, 1, 98, b));
        }
        int place = a == null ? 0 : 1;
        return x.set(writer, place, 99) == PenPage.NONE ? null : keyAt(x, writer, place);
    }

    private static void grows(int writer, int[] a, int[] b, int... due) {
        int[] got = grown(writer, a, b);
        String told = "writer " + writer + " between " + Arrays.toString(a) + " and " + Arrays.toString(b) + ": "
                + Arrays.toString(got) + ", due is " + Arrays.toString(due);
        CHECK.yes(told, Arrays.equals(got, due));
    }

    private static int[] k(int... numbers) {
        return numbers;
    }

    private static void newKeyNumberByNumber() {
        CHECK.sentence("if y by 8 (cut down) is 2 or more above x by 8 (cut down): 8 by half of both together (cut down), and the WRITER");
        for (int w = 0; w < 5; w++) {
            grows(w, NOTHING, NOTHING, 400 + w);
            grows(w, NOTHING, k(16), 8 + w);
            grows(w, k(8), k(24), 16 + w);
        }
        grows(0, NOTHING, k(15), 0, 400);
        grows(0, NOTHING, k(23), 8);
        grows(0, NOTHING, k(24), 8);
        grows(0, NOTHING, k(31), 8);
        grows(0, NOTHING, k(32), 16);
        grows(3, k(15), k(24), 19);
        grows(3, k(15), k(23), 15, 403);
        grows(3, k(8), k(23), 8, 403);
        grows(3, k(8), k(31), 19);
        grows(3, k(8), k(32), 19);
        grows(3, k(8), k(39), 19);
        grows(3, k(8), k(40), 27);
        grows(4, k(404), k(405), 404, 404);
        grows(4, k(400), k(407), 400, 404);
        grows(4, k(407), k(408), 407, 404);
        grows(4, k(407), k(416), 412);
    }

    private static void newKeyAtTheTop() {
        CHECK.sentence("x is a's (0 if it has no more), y is b's (800 if there is no b, or it counts no more)");
        grows(0, k(783), NOTHING, 784);
        grows(0, k(784), NOTHING, 792);
        grows(0, k(791), NOTHING, 792);
        grows(2, k(792), NOTHING, 792, 402);
        grows(2, k(799), NOTHING, 799, 402);
        grows(2, k(799, 791), NOTHING, 799, 794);
        grows(2, k(799, 792), NOTHING, 799, 792, 402);
        grows(2, k(0, 8), NOTHING, 402);
        grows(2, k(400, 791), k(408), 400, 794);
        grows(2, k(400, 792), k(408), 400, 792, 402);
        grows(2, k(792), k(799), 792, 402);
        grows(2, k(792, 799), k(799, 8), 792, 799, 402);

        // Behind a moved one's key its packet goes on with the next mark: none of that is the key's.
        PenPage x = new PenPage();
        had(x, 0, Bytes.set(1, 1, 1, 97, 80));
        had(x, 0, Bytes.set(1, 2, 1, 98, 160));
        had(x, 0, Bytes.move(1, 3, 2, new int[] {101, 400}, new int[] {102, 408, 16}));
        x.set(0, 1, 99);
        key("behind a moved one", x, 0, 1, 400, 400);
        x.set(0, 3, 99);
        key("behind the last moved one", x, 0, 3, 600);
        x.set(0, 2, 99);
        key("ahead of the last moved one", x, 0, 2, 400, 600);

        // A longer key that was grown just ahead leaves nothing behind.
        PenPage y = new PenPage();
        had(y, 0, Bytes.set(1, 1, 1, 97, 100, 500, 500));
        had(y, 0, Bytes.set(1, 2, 1, 98, 400));
        had(y, 0, Bytes.set(1, 3, 1, 99, 408));
        y.set(0, 1, 100);
        key("between a long one and a short one", y, 0, 1, 248);
        y.set(0, 3, 101);
        key("between two short ones", y, 0, 3, 400, 400);
    }

    private static void newKeyGoesOn() {
        CHECK.sentence("else x stands, b counts no more if x isn't y, and so on");
        grows(1, k(400), k(400, 16), 400, 9);
        grows(1, k(400), k(400, 15), 400, 0, 401);
        grows(1, k(400), k(400, 8), 400, 0, 401);
        grows(1, k(400), k(400, 0, 16), 400, 0, 9);
        grows(1, k(400), k(400, 0, 8), 400, 0, 0, 401);
        grows(1, k(400, 8), k(400, 16), 400, 8, 401);
        grows(1, k(400, 8), k(400, 8, 24), 400, 8, 9);
        grows(1, k(400, 100), k(401, 8), 400, 449);
        grows(1, k(400, 100), k(400, 101), 400, 100, 401);
        grows(1, k(400), k(407, 8), 400, 401);
        grows(1, NOTHING, k(0, 16), 0, 9);
        grows(1, NOTHING, k(0, 8), 0, 0, 401);
        grows(1, NOTHING, k(7, 16), 0, 401);
        grows(1, NOTHING, k(8, 16), 0, 401);
    }

    private static void newKeyOfTwentyFour() {
        CHECK.sentence("If it would have more than 24 NUMBERS, there is none");
        grows(0, NOTHING, row(24, 0, 16), row(24, 0, 8));
        grows(0, NOTHING, row(24, 0, 15), NOTHING);
        grows(0, NOTHING, row(23, 0, 15), row(24, 0, 400));
        grows(0, row(23, 799, 799), NOTHING, row(24, 799, 400));
        grows(0, row(24, 799, 791), NOTHING, row(24, 799, 792));
        grows(0, row(24, 799, 792), NOTHING, NOTHING);
        grows(0, row(24, 799, 799), NOTHING, NOTHING);
        grows(0, row(24, 8, 8), row(24, 8, 23), NOTHING);
        grows(0, row(24, 8, 8), row(24, 8, 24), row(24, 8, 16));
    }

    private static void newKeyAmongLikeKeys() {
        CHECK.sentence("(If a and b are of like KEYS, b is the next one with another KEY.)");
        PenPage x = new PenPage();
        for (int n = 1; n <= 3; n++) {
            had(x, 0, Bytes.set(1, n, 1, 97, 400));
        }
        had(x, 0, Bytes.set(1, 4, 1, 97, 416));
        had(x, 0, Bytes.set(1, 5, 1, 97, 416));
        x.set(0, 1, 98);
        key("behind the first of three like ones", x, 0, 3, 408);
        marks("it stands behind all three", x, 0, 101, 102, 103, 1, 104, 105);
        x.set(0, 5, 98);
        key("behind the first of two at the end", x, 0, 6, 608);
        x.set(0, 0, 98);
        key("ahead of three like ones", x, 0, 0, 200);
    }
}
