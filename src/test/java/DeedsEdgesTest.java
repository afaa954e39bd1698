import java.util.Arrays;

/** Each edge that "==== 3" and promises 7 to 10 and 20 name: what a WRITER does on his PAGE, what is refused, GONE. */
public final class DeedsEdgesTest {
    private static final Check CHECK = new Check();
    private static final int LEAST = Integer.MIN_VALUE;
    private static final int MOST = Integer.MAX_VALUE;

    public static void main(String[] args) {
        setPlaces();
        setBehindTheMarkAhead();
        strikePlaces();
        undoesWhatHolds();
        undoOfWhatCountsForNothing();
        undoOfGone();
        movePlaces();
        moveOfSixAtMost();
        moveAt();
        moveKeys();
        moveWithoutKey();
        refusedBySteps();
        refusedByAge();
        refusedWithoutKey();
        refusedChangesNothing();
        answersTheNumber();
        goneOfEachWriter();
        goneBySight();
        goneOfAnyMark();
        goneByLatestStep();
        goneOfOneWriter();
        goneNoMore();
        CHECK.finish();
    }

    private static int[] keyAt(PenPage x, int page, int i) {
        int[] key = new int[x.text(page, i, 2)];
        Arrays.setAll(key, k -> x.text(page, i, 10 + k));
        return key;
    }

    private static void key(String what, PenPage x, int page, int i, int... due) {
        int[] got = keyAt(x, page, i);
        CHECK.yes(what + ": the key is " + Arrays.toString(got) + ", due is " + Arrays.toString(due), Arrays.equals(got, due));
    }

    private static void marks(String what, PenPage x, int page, int... due) {
        int[] got = new int[x.page(page, 1)];
        Arrays.setAll(got, i -> x.text(page, i, 1));
        CHECK.yes(what + ": the text is " + Arrays.toString(got) + ", due is " + Arrays.toString(due), Arrays.equals(got, due));
    }

    private static void had(PenPage x, int page, int... packet) {
        CHECK.due("the packet " + Arrays.toString(packet), 2, () -> Bytes.hear(x, page, packet));
    }

    private static PenPage texted(int length) {
        PenPage x = new PenPage();
        for (int i = 0; i < length; i++) {
            x.set(0, i, 97 + i);
        }
        return x;
    }

    private static void gone(String what, boolean due, PenPage x, int page, int mark) {
        CHECK.due(what, due ? 1 : 0, () -> x.gone(page, mark) ? 1 : 0);
    }

    private static void setPlaces() {
        CHECK.sentence("SETS a SIGN at a place of THE TEXT (0 to its length)");
        for (int length = 0; length <= 2; length++) {
            int behind = length + 1;
            for (int place : new int[] {-1, behind, LEAST, MOST}) {
                PenPage x = texted(length);
                CHECK.due("length " + length + ", place " + place, PenPage.NONE, () -> x.set(0, place, 99));
                CHECK.due("counted", 1, () -> x.count(2));
            }
            for (int i = 0; i <= length; i++) {
                int place = i;
                PenPage x = texted(length);
                CHECK.due("length " + length + ", place " + place, behind, () -> x.set(0, place, 99));
                CHECK.due("it stands there", behind, () -> x.text(0, place, 1));
            }
        }
        PenPage x = texted(2);
        x.strike(0, 1);
        CHECK.due("the length is that of what shows", PenPage.NONE, () -> x.set(0, 2, 99));
        CHECK.due("its end", 4, () -> x.set(0, 1, 99));
    }

    private static void setBehindTheMarkAhead() {
        CHECK.sentence("a NEW KEY behind the MARK at the place ahead (ahead of all at 0)");
        PenPage x = new PenPage();
        had(x, 0, Bytes.set(1, 1, 1, 97, 80));
        had(x, 0, Bytes.set(1, 2, 1, 98, 160));
        had(x, 0, Bytes.set(1, 3, 1, 99, 320));
        had(x, 0, Bytes.of(1, 1, 4, 2, 1, 1));
        had(x, 0, Bytes.of(1, 1, 5, 3, 1, 3));
        marks("the first and the last are struck", x, 0, 102);
        CHECK.due("at 0", 1, () -> x.set(0, 0, 100));
        key("ahead of the struck one too", x, 0, 0, 40);
        CHECK.due("at the end", 2, () -> x.set(0, 2, 101));
        key("between the last of the text and the struck one behind", x, 0, 2, 240);
        CHECK.due("behind 40", 3, () -> x.set(0, 1, 102));
        key("between it and the struck one", x, 0, 1, 56);
    }

    private static void strikePlaces() {
        CHECK.sentence("STRIKES the one at a place");
        for (int length = 0; length <= 2; length++) {
            for (int place : new int[] {-1, length, LEAST, MOST}) {
                PenPage x = texted(length);
                CHECK.due("length " + length + ", place " + place, PenPage.NONE, () -> x.strike(0, place));
                CHECK.due("counted", 1, () -> x.count(2));
            }
        }
        PenPage x = texted(3);
        CHECK.due("the last", 4, () -> x.strike(0, 2));
        marks("the last is struck", x, 0, 1, 2);
        CHECK.due("the first", 5, () -> x.strike(0, 0));
        marks("the first is struck", x, 0, 2);
        CHECK.due("the length is that of what shows", PenPage.NONE, () -> x.strike(0, 1));
        CHECK.due("the only one", 6, () -> x.strike(0, 0));
        marks("nothing shows", x, 0);
        CHECK.due("there is none", PenPage.NONE, () -> x.strike(0, 0));
    }

    private static void undoesWhatHolds() {
        CHECK.sentence("UNDOES a STEP of his own that HOLDS");
        PenPage x = texted(2);
        for (int number : new int[] {0, -1, 3, 60, 61, 101, 257, LEAST, MOST}) {
            CHECK.due("step " + number, PenPage.NONE, () -> x.undo(0, number));
        }
        CHECK.due("each counted", 9, () -> x.count(2));
        CHECK.due("the last", 3, () -> x.undo(0, 2));
        CHECK.due("it doesn't hold", PenPage.NONE, () -> x.undo(0, 2));
        CHECK.due("the first", 4, () -> x.undo(0, 1));
        CHECK.due("the undo ahead", 5, () -> x.undo(0, 3));
        CHECK.due("it doesn't hold", PenPage.NONE, () -> x.undo(0, 3));
        CHECK.due("its step holds again", 6, () -> x.undo(0, 2));
        PenPage y = texted(1);
        y.send(0, 1, 0, 1);
        CHECK.due("not another's", PenPage.NONE, () -> y.undo(1, 1));
        y.set(1, 0, 98);
        CHECK.due("one's own", 2, () -> y.undo(1, 1));
        marks("the other's stands", y, 1, 1);
        PenPage z = texted(2);
        z.move(0, 0, 0, 2);
        CHECK.due("a move", 4, () -> z.undo(0, 3));
        marks("as ahead of it", z, 0, 1, 2);
    }

    private static void undoOfWhatCountsForNothing() {
        CHECK.sentence("UNDOES a STEP of his own that HOLDS; not a STRIKE of a MARK that is GONE");
        PenPage x = new PenPage();
        had(x, 0, Bytes.set(0, 1, 1, 97, 400));
        had(x, 0, Bytes.of(2, 0, 2, 2, 0));
        had(x, 0, Bytes.of(1, 0, 3, 3, 0, 2));
        CHECK.due("a strike of what is no mark", 4, () -> x.undo(0, 3));
        CHECK.due("it doesn't hold", 0, () -> x.step(0, 0, 3, 2));
        CHECK.due("an undo of step 0", 5, () -> x.undo(0, 2));
        CHECK.due("nor does that", 0, () -> x.step(0, 0, 2, 2));
        marks("the mark stands all the time", x, 0, 1);
    }

    private static void undoOfGone() {
        CHECK.sentence("not a STRIKE of a MARK that is GONE");
        PenPage x = texted(2);
        x.send(0, 1, 0, 1);
        x.send(0, 1, 0, 2);
        x.strike(0, 0);
        x.strike(1, 0);
        x.strike(0, 0);
        x.send(0, 1, 0, 3);
        x.set(1, 0, 98);
        x.send(1, 0, 1, 1);
        gone("writer 1's latest here saw no strike of writer 0", false, x, 0, 1);
        x.send(1, 0, 1, 2);
        gone("now it did", true, x, 0, 1);
        CHECK.due("a strike of a mark that is gone", PenPage.NONE, () -> x.undo(0, 3));
        CHECK.due("counted", 1, () -> x.count(2));
        CHECK.due("a strike of one that isn't", 5, () -> x.undo(0, 4));
        CHECK.due("the set of the gone one", 6, () -> x.undo(0, 1));
        CHECK.due("the undo of that", 7, () -> x.undo(0, 6));
        gone("on page 1 it isn't gone", false, x, 1, 1);
        CHECK.due("none is gone there", 0, () -> x.page(1, 3));
        CHECK.due("one is gone here", 1, () -> x.page(0, 3));
        CHECK.due("so there it can be undone", 3, () -> x.undo(1, 1));

        PenPage y = texted(1);
        y.strike(0, 0);
        y.undo(0, 2);
        y.undo(0, 3);
        had(y, 0, Bytes.seeing(Bytes.of(1, 1, 1, 9, 0, 1), 0, 4));
        gone("struck again by an undo of an undo", true, y, 0, 1);
        CHECK.due("the strike", PenPage.NONE, () -> y.undo(0, 2));
        CHECK.due("the undo isn't a strike", 5, () -> y.undo(0, 4));
        CHECK.due("so the strike doesn't hold", 0, () -> y.step(0, 0, 2, 2));
        gone("nor is it gone", false, y, 0, 1);
    }

    private static void movePlaces() {
        CHECK.sentence("MOVES those at places from up to to");
        int[][] wrong = {{-1, 0, 2}, {-1, -1, 0}, {0, 3, 0}, {3, 3, 0}, {2, 1, 0}, {1, 0, 3}, {LEAST, 0, 1}, {0, MOST, 0}, {LEAST, MOST, 0},
            {MOST, LEAST, 0}, {MOST, MOST, 0}, {LEAST, LEAST, 0}};
        for (int[] m : wrong) {
            PenPage x = texted(3);
            CHECK.due("move " + Arrays.toString(m), PenPage.NONE, () -> x.move(0, m[0], m[1], m[2]));
            CHECK.due("counted", 1, () -> x.count(2));
            marks("as it was", x, 0, 1, 2, 3);
        }
        PenPage x = new PenPage();
        CHECK.due("an empty text", PenPage.NONE, () -> x.move(0, 0, 0, 0));
        PenPage y = texted(1);
        CHECK.due("the only one", 2, () -> y.move(0, 0, 0, 1));
        marks("it stands where it was", y, 0, 1);
    }

    private static void moveOfSixAtMost() {
        CHECK.sentence("(6 at most)");
        for (int many = 1; many <= 6; many++) {
            PenPage x = texted(8);
            int last = many;
            CHECK.due("a move of " + many, 9, () -> x.move(0, 1, last, 0));
            CHECK.due("so many in the packet", many, () -> x.packet(0, 0, 9, 10));
            CHECK.due("the first stands behind them", 1, () -> x.text(0, last, 1));
        }
        PenPage x = texted(8);
        CHECK.due("seven to the front", PenPage.NONE, () -> x.move(0, 1, 7, 0));
        CHECK.due("seven to the end", PenPage.NONE, () -> x.move(0, 0, 6, 8));
        CHECK.due("eight", PenPage.NONE, () -> x.move(0, 0, 7, 0));
    }

    private static void moveAt() {
        CHECK.sentence("ahead of the place at (0 to the length; from or less, or above to)");
        int[][] can = {{0, 2, 3, 1, 4, 5}, {1, 1, 2, 3, 4, 5}, {3, 1, 2, 3, 4, 5}, {4, 1, 4, 2, 3, 5}, {5, 1, 4, 5, 2, 3}};
        for (int[] c : can) {
            PenPage x = texted(5);
            CHECK.due("1 to 2 at " + c[0], 6, () -> x.move(0, 1, 2, c[0]));
            marks("1 to 2 at " + c[0], x, 0, Arrays.copyOfRange(c, 1, 6));
        }
        for (int at : new int[] {-1, 2, 6, LEAST, MOST}) {
            PenPage x = texted(5);
            CHECK.due("1 to 2 at " + at, PenPage.NONE, () -> x.move(0, 1, 2, at));
            marks("1 to 2 at " + at, x, 0, 1, 2, 3, 4, 5);
        }
        for (int at = 1; at <= 5; at++) {
            int within = at;
            PenPage x = texted(6);
            CHECK.due("0 to 5 at " + at, PenPage.NONE, () -> x.move(0, 0, 5, within));
        }
    }

    private static void moveKeys() {
        CHECK.sentence("each next one as if a were the NEW KEY of the one ahead; b stays that of the first one");
        PenPage x = new PenPage();
        had(x, 0, Bytes.set(1, 1, 1, 97, 80));
        had(x, 0, Bytes.set(1, 2, 1, 98, 160));
        had(x, 0, Bytes.set(1, 3, 1, 99, 400));
        had(x, 0, Bytes.set(1, 4, 1, 100, 480));
        CHECK.due("two ahead of the second", 1, () -> x.move(0, 2, 3, 1));
        marks("they stand there", x, 0, 101, 103, 104, 102);
        key("the first between 80 and 160", x, 0, 1, 120);
        key("the next between it and 160", x, 0, 2, 136);
        CHECK.due("three ahead of all", 2, () -> x.move(0, 1, 3, 0));
        key("ahead of 80", x, 0, 0, 40);
        key("then between 40 and 80", x, 0, 1, 56);
        key("then between 56 and 80", x, 0, 2, 64);
        CHECK.due("one to the end", 3, () -> x.move(0, 0, 0, 4));
        key("behind 80, which is the last now", x, 0, 3, 440);

        CHECK.sentence("(ahead of all at 0; THE ROW as it is)");
        PenPage y = new PenPage();
        had(y, 0, Bytes.set(1, 1, 1, 97, 80));
        had(y, 0, Bytes.set(1, 2, 1, 98, 160));
        CHECK.due("the first ahead of itself", 1, () -> y.move(0, 0, 0, 0));
        key("ahead of its own old key", y, 0, 0, 40);
        CHECK.due("the first behind itself", 2, () -> y.move(0, 0, 0, 1));
        key("between its own old key and the next", y, 0, 0, 96);
        CHECK.due("the last behind itself", 3, () -> y.move(0, 1, 1, 2));
        key("behind its own old key", y, 0, 1, 480);
        had(y, 0, Bytes.of(1, 1, 3, 9, 1, 2));
        CHECK.due("with a struck one behind", 4, () -> y.move(0, 0, 0, 1));
        key("b is the struck one", y, 0, 0, 288);

        CHECK.sentence("and the WRITER, and it ends");
        for (int w = 0; w < 5; w++) {
            PenPage z = new PenPage();
            z.writers(5);
            z.set(w, 0, 97);
            z.set(w, 1, 98);
            z.move(w, 0, 1, 2);
            key("the first of a move by writer " + w, z, w, 0, 696 + w);
            key("the second", z, w, 1, 744 + w);
        }
    }

    private static int[] row(int many, int number, int last) {
        int[] row = new int[many];
        Arrays.fill(row, number);
        row[many - 1] = last;
        return row;
    }

    /** Three marks, the first of a key that leaves room for just two ahead of it. */
    private static PenPage tight() {
        PenPage x = new PenPage();
        had(x, 0, Bytes.set(1, 1, 1, 97, row(24, 0, 24)));
        had(x, 0, Bytes.set(1, 2, 1, 98, 80));
        had(x, 0, Bytes.set(1, 3, 1, 99, 160));
        had(x, 0, Bytes.set(1, 4, 1, 100, 240));
        return x;
    }

    private static void moveWithoutKey() {
        CHECK.sentence("If it would have more than 24 NUMBERS, there is none");
        PenPage x = tight();
        CHECK.due("there are keys for two", 1, () -> x.move(0, 1, 2, 0));
        key("the first", x, 0, 0, row(24, 0, 8));
        key("the second", x, 0, 1, row(24, 0, 16));
        CHECK.due("none ahead of the first now", PenPage.NONE, () -> x.move(0, 3, 3, 0));
        PenPage y = tight();
        CHECK.due("none for the third of three", PenPage.NONE, () -> y.move(0, 1, 3, 0));
        CHECK.due("counted once", 1, () -> y.count(2));
        marks("none was moved", y, 0, 101, 102, 103, 104);
        CHECK.due("no step came", 0, () -> y.page(0, 10));
        CHECK.due("the next act is as if it hadn't been", 1, () -> y.set(0, 0, 101));
        key("its key", y, 0, 0, row(24, 0, 8));
    }

    private static void refusedBySteps() {
        CHECK.sentence("NONE (STATUS 0): not as told, he has 60 STEPS");
        PenPage x = new PenPage();
        for (int n = 1; n <= 59; n++) {
            x.set(0, 0, 97);
        }
        for (int kind = 0; kind < 4; kind++) {
            x.image();
            int which = kind;
            CHECK.due("the 60th, kind " + kind, 60, () -> deed(x, which));
            for (int after = 0; after < 4; after++) {
                int next = after;
                CHECK.due("a 61st, kind " + after, PenPage.NONE, () -> deed(x, next));
                CHECK.due("counted", after + 1, () -> x.count(2));
            }
            x.restore();
        }
    }

    private static int deed(PenPage x, int kind) {
        return switch (kind) {
            case 0 -> x.set(0, 0, 97);
            case 1 -> x.strike(0, 0);
            case 2 -> x.undo(0, 1);
            default -> x.move(0, 1, 1, 0);
        };
    }

    private static void refusedByAge() {
        CHECK.sentence("the AGE would be above 65535");
        for (int kind = 0; kind < 4; kind++) {
            int which = kind;
            PenPage x = texted(2);
            had(x, 0, Bytes.set(1, 1, 65534, 98, 8));
            CHECK.due("of 65535, kind " + kind, 3, () -> deed(x, which));
            CHECK.due("its age", 65535, () -> x.step(0, 0, 3, 1));
            CHECK.due("its first byte", 255, () -> x.packet(0, 0, 3, 8));
            CHECK.due("its second", 255, () -> x.packet(0, 0, 3, 9));
            PenPage y = texted(2);
            had(y, 0, Bytes.set(1, 1, 65535, 98, 8));
            CHECK.due("of 65536, kind " + kind, PenPage.NONE, () -> deed(y, which));
            CHECK.due("counted", 1, () -> y.count(2));
            CHECK.due("no step came", 2, () -> y.page(0, 10));
            CHECK.due("the greatest age", 65535, () -> y.page(0, 4));
        }
        PenPage z = texted(2);
        CHECK.due("held", 1, () -> Bytes.hear(z, 0, Bytes.set(1, 2, 65535, 98, 8)));
        CHECK.due("a held one's age hinders nothing", 3, () -> z.set(0, 0, 97));
    }

    private static void refusedWithoutKey() {
        CHECK.sentence("there is no KEY");
        PenPage x = new PenPage();
        had(x, 0, Bytes.set(1, 1, 1, 97, row(24, 0, 8)));
        had(x, 0, Bytes.set(1, 2, 1, 98, row(24, 799, 799)));
        CHECK.due("no key ahead, set", PenPage.NONE, () -> x.set(0, 0, 97));
        CHECK.due("no key ahead, move", PenPage.NONE, () -> x.move(0, 1, 1, 0));
        CHECK.due("no key behind, set", PenPage.NONE, () -> x.set(0, 2, 97));
        CHECK.due("no key behind, move", PenPage.NONE, () -> x.move(0, 0, 0, 2));
        CHECK.due("each counted", 4, () -> x.count(2));
        CHECK.due("a strike needs none", 1, () -> x.strike(0, 0));
        CHECK.due("nor an undo", 2, () -> x.undo(0, 1));
        CHECK.due("between there is one", 3, () -> x.set(0, 1, 97));
    }

    private static void refusedChangesNothing() {
        CHECK.sentence("STATUS: how many calls were refused: 0 acts on PAGES");
        PenPage x = texted(3);
        int[] before = state(x);
        x.set(0, 4, 97);
        x.set(0, 0, 127);
        x.strike(0, 3);
        x.undo(0, 4);
        x.move(0, 0, 1, 1);
        CHECK.due("five", 5, () -> x.count(2));
        CHECK.due("no packets", 0, () -> x.count(3));
        CHECK.due("no story", 0, () -> x.count(4));
        CHECK.yes("nothing else has changed", Arrays.equals(before, state(x)));
        CHECK.due("the next step", 4, () -> x.set(0, 0, 97));
        CHECK.due("of the next age", 4, () -> x.step(0, 0, 4, 1));
    }

    private static int[] state(PenPage x) {
        int[] state = new int[7 + x.page(0, 1)];
        for (int what = 0; what <= 4; what++) {
            state[what] = x.page(0, what);
        }
        state[5] = x.page(0, 10);
        state[6] = x.page(0, 11);
        for (int i = 7; i < state.length; i++) {
            state[i] = x.text(0, i - 7, 1);
        }
        return state;
    }

    private static void answersTheNumber() {
        CHECK.sentence("A WRITER SETS: the number of his STEP");
        PenPage x = new PenPage();
        CHECK.due("his second came ahead", 1, () -> Bytes.hear(x, 0, Bytes.set(0, 2, 2, 98, 600)));
        CHECK.due("his fourth too", 1, () -> Bytes.hear(x, 0, Bytes.set(0, 4, 2, 98, 700)));
        CHECK.due("set", 1, () -> x.set(0, 0, 97));
        CHECK.due("the second is had behind it", 2, () -> x.page(0, 10));
        CHECK.due("strike", 3, () -> x.strike(0, 0));
        CHECK.due("the fourth is had behind it", 4, () -> x.page(0, 10));
        CHECK.due("undo", 5, () -> x.undo(0, 3));
        CHECK.due("move", 6, () -> x.move(0, 0, 0, 2));
        CHECK.due("another's number is his own", 1, () -> x.set(1, 0, 97));
    }

    private static void goneOfEachWriter() {
        CHECK.sentence("GONE on a PAGE is a MARK, if of each WRITER some STRIKE of it HOLDS");
        PenPage x = new PenPage();
        x.writers(5);
        had(x, 0, Bytes.set(0, 1, 1, 97, 400));
        had(x, 0, Bytes.of(1, 0, 2, 2, 0, 1));
        for (int w = 1; w <= 4; w++) {
            gone("by " + w + " writers of five", false, x, 0, 1);
            had(x, 0, Bytes.seeing(Bytes.of(1, w, 1, 3, 0, 1), 0, 2));
        }
        gone("all struck, but one saw only those ahead", false, x, 0, 1);
        CHECK.due("none gone", 0, () -> x.page(0, 3));
        for (int w = 1; w <= 4; w++) {
            int[] sight = Bytes.seeing(Bytes.set(w, 2, 9, 97, 8 * w), 0, 2);
            for (int other = 1; other <= 4; other++) {
                sight = other == w ? sight : Bytes.seeing(sight, other, 1);
            }
            gone("writers up to " + w + " yet to see", false, x, 0, 1);
            had(x, 0, sight);
        }
        gone("all of all", true, x, 0, 1);
        CHECK.due("one gone", 1, () -> x.page(0, 3));
        gone("the others are not", false, x, 0, 402);
    }

    /** Page 0 with a mark struck by both; writer 1's strike saw so many of writer 0's steps. */
    private static PenPage struckByTwo(int sight) {
        PenPage x = new PenPage();
        x.set(0, 0, 97);
        x.set(0, 1, 98);
        x.strike(0, 0);
        x.set(0, 0, 99);
        had(x, 0, Bytes.seeing(Bytes.of(1, 1, 1, 9, 0, 1), 0, sight));
        return x;
    }

    private static void goneBySight() {
        CHECK.sentence("each WRITER's latest STEP that the PAGE has SAW a STRIKE of it that HOLDS of each other one");
        gone("saw one step less", false, struckByTwo(2), 0, 1);
        gone("saw the strike as the last", true, struckByTwo(3), 0, 1);
        gone("saw one step more", true, struckByTwo(4), 0, 1);

        CHECK.sentence("(the PAGE's own WRITER by what it has now)");
        PenPage x = struckByTwo(3);
        CHECK.due("writer 0's latest step saw nothing of writer 1", 0, () -> x.packet(0, 0, 4, 4));
        for (int n = 1; n <= 4; n++) {
            x.send(0, 1, 0, n);
        }
        x.send(0, 1, 1, 1);
        gone("so on page 1 it isn't gone", false, x, 1, 1);
        x.set(0, 0, 100);
        x.send(0, 1, 0, 5);
        gone("his next step saw the strike", true, x, 1, 1);
    }

    private static void goneOfAnyMark() {
        CHECK.sentence("GONE on a PAGE is a MARK");
        PenPage x = texted(3);
        x.strike(0, 1);
        had(x, 0, Bytes.seeing(Bytes.of(1, 1, 1, 9, 0, 2), 0, 4));
        gone("the first stands", false, x, 0, 1);
        gone("the second is gone", true, x, 0, 2);
        gone("the third stands", false, x, 0, 3);
        CHECK.due("one is gone", 1, () -> x.page(0, 3));
        x.strike(0, 0);
        gone("the first is struck by one alone", false, x, 0, 1);
        CHECK.due("one is gone still", 1, () -> x.page(0, 3));
        x.strike(0, 0);
        had(x, 0, Bytes.seeing(Bytes.of(1, 1, 2, 12, 0, 3), 0, 6));
        CHECK.due("two are gone", 2, () -> x.page(0, 3));

        PenPage y = new PenPage();
        had(y, 1, Bytes.set(0, 1, 1, 97, 400));
        y.strike(1, 0);
        had(y, 1, Bytes.seeing(Bytes.of(1, 0, 2, 9, 0, 1), 1, 1));
        gone("on page 1 alone", true, y, 1, 1);
        CHECK.due("one on page 1", 1, () -> y.page(1, 3));
        CHECK.due("none on page 0", 0, () -> y.page(0, 3));
        CHECK.due("it has no such mark", Check.NO_SUCH, () -> y.gone(0, 1) ? 1 : 0);
    }

    private static void goneByLatestStep() {
        CHECK.sentence("each WRITER's latest STEP that the PAGE has");
        PenPage x = struckByTwo(3);
        had(x, 0, Bytes.set(1, 2, 10, 98, 8));
        gone("the latest saw less than the one ahead of it", false, x, 0, 1);
        CHECK.due("held ones are not had", 1, () -> Bytes.hear(x, 0, Bytes.seeing(Bytes.set(1, 4, 10, 98, 8), 0, 4)));
        gone("so a held one counts for nothing", false, x, 0, 1);
        had(x, 0, Bytes.set(1, 3, 10, 98, 16));
        gone("with the one ahead of it it is had", true, x, 0, 1);
    }

    private static void goneOfOneWriter() {
        CHECK.sentence("if of each WRITER some STRIKE of it HOLDS");
        PenPage x = new PenPage();
        x.writers(1);
        x.set(0, 0, 97);
        gone("not struck", false, x, 0, 1);
        CHECK.due("none gone", 0, () -> x.page(0, 3));
        x.strike(0, 0);
        gone("there is no other one", true, x, 0, 1);
        CHECK.due("one gone", 1, () -> x.page(0, 3));
        CHECK.due("so its strike stays", PenPage.NONE, () -> x.undo(0, 2));
        x.undo(0, 1);
        gone("its set doesn't hold, gone it is", true, x, 0, 1);
    }

    private static void goneNoMore() {
        CHECK.sentence("some STRIKE of it HOLDS");
        PenPage x = struckByTwo(3);
        gone("gone", true, x, 0, 1);
        had(x, 0, Bytes.seeing(Bytes.of(2, 1, 2, 10, 1), 0, 3));
        gone("writer 1 undid his strike elsewhere", false, x, 0, 1);
        CHECK.due("none gone", 0, () -> x.page(0, 3));
        CHECK.due("so writer 0 can undo his", 5, () -> x.undo(0, 3));
        marks("it shows again", x, 0, 4, 1, 2);

        PenPage y = struckByTwo(4);
        had(y, 0, Bytes.of(2, 0, 5, 10, 3));
        had(y, 0, Bytes.of(1, 0, 6, 11, 0, 1));
        gone("what writer 1 saw was undone, the other he didn't see", false, y, 0, 1);
        had(y, 0, Bytes.seeing(Bytes.set(1, 2, 12, 98, 8), 0, 5));
        gone("nor now", false, y, 0, 1);
        had(y, 0, Bytes.seeing(Bytes.set(1, 3, 12, 98, 16), 0, 6));
        gone("now he saw it", true, y, 0, 1);
    }
}
