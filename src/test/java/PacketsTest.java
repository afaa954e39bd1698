/** Promises 11 to 15: packet, feed, hear, fault, send; with them FAULTS and what is HELD. */
public final class PacketsTest {
    private static final Check CHECK = new Check();

    public static void main(String[] args) {
        packetBytes();
        packetRefused();
        feeds();
        hearRefused();
        lengths();
        wrongBytes();
        wrongMarks();
        wrongSum();
        firstAlong();
        otherSteps();
        twentyHeld();
        heldComeIn();
        heldDropped();
        countsForNothing();
        faultStays();
        sends();
        CHECK.finish();
    }

    private static void bytes(String what, PenPage x, int page, int writer, int number, int... due) {
        CHECK.due(what + ": length", due.length, () -> x.packet(page, writer, number, PenPage.NONE));
        for (int i = 0; i < due.length; i++) {
            int at = i;
            CHECK.due(what + ": byte " + i, due[i], () -> x.packet(page, writer, number, at));
        }
    }

    private static void faulty(String what, PenPage x, int page, int fault, int place, int... packet) {
        CHECK.due(what, 10 + fault, () -> Bytes.hear(x, page, packet));
        CHECK.due(what + ": place", place, x::fault);
        CHECK.due(what + ": the tape is empty", 0, () -> x.count(1));
    }

    private static void packetBytes() {
        PenPage x = new PenPage();
        x.writers(3);
        x.set(1, 0, 97);
        x.set(1, 1, 98);
        x.send(1, 2, 1, 1);
        x.send(1, 2, 1, 2);
        x.strike(2, 1);
        x.undo(2, 1);
        x.move(2, 0, 1, 0);
        bytes("11: set", x, 2, 1, 2, Bytes.seal(0, 1, 2, 0, 1, 0, 0, 0, 0, 2, 98, 1, 2, 89));
        bytes("11: strike", x, 2, 2, 1, Bytes.seal(1, 2, 1, 0, 2, 0, 0, 0, 0, 3, 1, 2));
        bytes("11: undo", x, 2, 2, 2, Bytes.seal(2, 2, 2, 0, 2, 1, 0, 0, 0, 4, 1));
        bytes("11: move", x, 2, 2, 3,
                Bytes.seal(3, 2, 3, 0, 2, 2, 0, 0, 0, 5, 2, 1, 1, 1, 0, 202, 1, 2, 1, 1, 42));
        Bytes.hear(x, 0, Bytes.set(0, 1, 0x1234, 97, 799, 0, 8));
        bytes("11: heard as it came", x, 0, 0, 1,
                Bytes.seal(0, 0, 1, 0, 0, 0, 0, 0, 0x12, 0x34, 97, 3, 3, 31, 0, 0, 0, 8));
        x.set(0, 0, 97);
        CHECK.due("11: age by 256", 0x12, () -> x.packet(0, 0, 2, 8));
        CHECK.due("11: and the rest", 0x35, () -> x.packet(0, 0, 2, 9));
    }

    private static void packetRefused() {
        PenPage x = new PenPage();
        x.set(0, 0, 97);
        for (int i : new int[] {-2, 15, Integer.MIN_VALUE, Integer.MAX_VALUE}) {
            CHECK.due("11: byte " + i, Check.NO_SUCH, () -> x.packet(0, 0, 1, i));
        }
        int[][] wrong = {{0, 0, 2}, {0, 0, 0}, {0, 0, -1}, {0, 1, 1}, {0, 2, 1}, {0, -1, 1}, {1, 0, 1}, {2, 0, 1}, {-1, 0, 1}};
        for (int[] w : wrong) {
            CHECK.due("11: packet of " + w[0] + ", " + w[1] + ", " + w[2], Check.NO_SUCH,
                    () -> x.packet(w[0], w[1], w[2], PenPage.NONE));
        }
    }

    private static void feeds() {
        PenPage x = new PenPage();
        for (int n = 20; n <= 400; n += 20) {
            CHECK.due("12: feed", n, () -> x.feed(0, 0, 0, 0, 0));
        }
        CHECK.due("12: more than 400", PenPage.NONE, () -> x.feed(0, 0, 0, 0, 0));
        CHECK.due("12: none came", 400, () -> x.count(1));
        CHECK.due("12: nothing is counted", 0, () -> x.count(3));
        CHECK.due("13: all 400", 12, () -> x.hear(0, 400));
        CHECK.due("13: empty then", 0, () -> x.count(1));
        CHECK.due("12: bytes, the highest first", 20, () -> x.feed(0x00000100, 0x00000000, 0xFFFF6101, 0x01900000, 0));
        CHECK.due("13: a set of age 65535 without its sum", 13, () -> x.hear(0, 15));
    }

    private static void hearRefused() {
        PenPage x = new PenPage();
        x.feed(1, 2, 3, 4, 5);
        CHECK.due("13: more than the tape has", Check.ILLEGAL, () -> x.hear(0, 21));
        CHECK.due("13: below 0", Check.ILLEGAL, () -> x.hear(0, -1));
        CHECK.due("13: far below 0", Check.ILLEGAL, () -> x.hear(0, Integer.MIN_VALUE));
        CHECK.due("13: far above", Check.ILLEGAL, () -> x.hear(0, Integer.MAX_VALUE));
        CHECK.due("13: no such page first", Check.NO_SUCH, () -> x.hear(2, 21));
        CHECK.due("13: no such page", Check.NO_SUCH, () -> x.hear(-1, 20));
        CHECK.due("13: nothing changes", 20, () -> x.count(1));
        CHECK.due("13: nothing is counted", 0, () -> x.count(3));
        CHECK.due("14: no fault", PenPage.NONE, x::fault);
    }

    /** A set, a strike, an undo and a move, each cut short at every length and with one byte more. */
    private static void lengths() {
        PenPage x = new PenPage();
        x.set(0, 0, 97);
        x.set(0, 1, 98);
        x.strike(0, 0);
        x.undo(0, 3);
        x.move(0, 0, 1, 0);
        for (int number = 1; number <= 5; number++) {
            int[] whole = Bytes.read(x, 0, 0, number);
            PenPage y = new PenPage();
            for (int n = 0; n < whole.length; n++) {
                int cut = n;
                Bytes.feed(y, whole);
                CHECK.due("13: step " + number + " cut to " + n, 11, () -> y.hear(1, cut));
                CHECK.due("14: its length", cut, y::fault);
            }
            int[] more = java.util.Arrays.copyOf(whole, whole.length + 1);
            faulty("13: step " + number + " goes on behind its end", y, 1, 1, whole.length, more);
            CHECK.due("13: every fault is counted", whole.length + 1, () -> y.count(3));
            CHECK.due("13: step " + number + " whole", number == 1 ? 2 : 1, () -> Bytes.hear(y, 1, whole));
            CHECK.due("14: none any more", PenPage.NONE, y::fault);
        }
    }

    private static void wrongBytes() {
        PenPage x = new PenPage();
        x.writers(3);
        int[] set = Bytes.set(1, 3, 5, 97, 0, 799, 8);
        int[][] wrong = {
            {0, 4}, {0, 255}, {1, 3}, {1, 255}, {2, 0}, {2, 61}, {2, 255}, {3, 61}, {3, 255}, {4, 1}, {4, 3}, {4, 0},
            {5, 61}, {6, 1}, {7, 1}, {7, 60}, {10, 31}, {10, 127}, {10, 0}, {11, 0}, {11, 25}, {11, 255}};
        for (int[] w : wrong) {
            faulty("13: byte " + w[0] + " is " + w[1], x, 0, 2, w[0], Bytes.with(set, w[0], w[1]));
        }
        faulty("13: age 0", x, 0, 2, 8, Bytes.set(1, 3, 0, 97, 400));
        faulty("13: number 800", x, 0, 2, 12, Bytes.set(1, 3, 5, 97, 800, 8));
        faulty("13: number 1023 in the middle", x, 0, 2, 14, Bytes.set(1, 3, 5, 97, 0, 1023, 8));
        faulty("13: last number 7", x, 0, 2, 14, Bytes.set(1, 3, 5, 97, 799, 7));
        faulty("13: last number 0", x, 0, 2, 12, Bytes.set(1, 3, 5, 97, 0));
        faulty("13: last number 800", x, 0, 2, 12, Bytes.set(1, 3, 5, 97, 800));
        faulty("13: undo of itself", x, 0, 2, 10, Bytes.of(2, 1, 3, 5, 3));
        faulty("13: undo of a later one", x, 0, 2, 10, Bytes.of(2, 1, 3, 5, 4));
        CHECK.due("13: each counted", wrong.length + 8, () -> x.count(3));
        CHECK.due("13: nothing held", 0, () -> x.page(0, 2));
        CHECK.due("13: edges that can be", 1, () -> Bytes.hear(x, 0, set));
        CHECK.due("13: seen 60", 1, () -> Bytes.hear(x, 1, Bytes.with(set, 3, 60)));
        CHECK.due("13: number 60", 1, () -> Bytes.hear(x, 2, Bytes.set(2, 60, 65535, 126, 8)));
    }

    private static void wrongMarks() {
        PenPage x = new PenPage();
        faulty("13: strike of no such writer's", x, 0, 2, 10, Bytes.of(1, 1, 3, 5, 2, 1));
        faulty("13: strike of mark 0", x, 0, 2, 11, Bytes.of(1, 1, 3, 5, 1, 0));
        faulty("13: strike of an unseen one", x, 0, 2, 11, Bytes.of(1, 1, 3, 5, 1, 3));
        faulty("13: of a writer of whom nothing was seen", x, 0, 2, 11, Bytes.of(1, 1, 3, 5, 0, 1));
        faulty("13: move of none", x, 0, 2, 10, Bytes.of(3, 1, 3, 5, 0));
        faulty("13: move of seven", x, 0, 2, 10, Bytes.of(3, 1, 3, 5, 7));
        faulty("13: a mark twice", x, 0, 2, 16, Bytes.of(3, 1, 3, 5, 2, 1, 1, 1, 0, 8, 1, 1, 1, 0, 8));
        faulty("13: the third as the first", x, 0, 2, 21,
                Bytes.of(3, 1, 3, 5, 3, 1, 1, 1, 0, 8, 1, 2, 1, 0, 8, 1, 1, 1, 0, 8));
        faulty("13: a moved mark of no such writer's", x, 0, 2, 11, Bytes.of(3, 1, 3, 5, 1, 5, 1, 1, 0, 8));
        faulty("13: an unseen mark moved", x, 0, 2, 12, Bytes.of(3, 1, 3, 5, 1, 1, 3, 1, 0, 8));
        faulty("13: a moved one's key", x, 0, 2, 13, Bytes.of(3, 1, 3, 5, 1, 1, 1, 0));
        faulty("13: its number", x, 0, 2, 14, Bytes.of(3, 1, 3, 5, 1, 1, 1, 1, 0, 7));
        CHECK.due("13: all held to", 1, () -> Bytes.hear(x, 0, Bytes.of(3, 1, 3, 5, 2, 1, 1, 1, 0, 8, 1, 2, 1, 0, 8)));
    }

    private static void wrongSum() {
        PenPage x = new PenPage();
        int[] set = Bytes.set(1, 1, 1, 97, 400);
        set[set.length - 1]++;
        faulty("13: sum", x, 0, 3, 14, set);
        set[set.length - 1] -= 2;
        faulty("13: sum below", x, 0, 3, 14, set);
        set[set.length - 1]++;
        CHECK.due("13: sum as due", 2, () -> Bytes.hear(x, 0, set));
    }

    private static void firstAlong() {
        PenPage x = new PenPage();
        int[] set = Bytes.set(1, 1, 1, 97, 400);
        int[] longer = java.util.Arrays.copyOf(set, 17);
        longer[14]++;
        faulty("the sum ahead of what goes on behind", x, 0, 3, 14, longer);
        longer[10] = 5;
        faulty("the sign ahead of the sum", x, 0, 2, 10, longer);
        longer[2] = 0;
        faulty("the number ahead of the sign", x, 0, 2, 2, longer);
        x.feed(0x00010100, 0, 0x00010500, 0, 0);
        CHECK.due("the sign ahead of the end", 12, () -> x.hear(0, 11));
        x.feed(0x00010100, 0, 0x00010500, 0, 0);
        CHECK.due("the end ahead of the sign", 11, () -> x.hear(0, 10));
    }

    private static void otherSteps() {
        PenPage x = new PenPage();
        int[] set = Bytes.set(1, 1, 1, 97, 400);
        CHECK.due("13: had", 2, () -> Bytes.hear(x, 0, set));
        CHECK.due("13: had already", 0, () -> Bytes.hear(x, 0, set));
        faulty("13: another sign", x, 0, 4, 0, Bytes.set(1, 1, 1, 98, 400));
        faulty("13: another age", x, 0, 4, 0, Bytes.set(1, 1, 2, 97, 400));
        faulty("13: another key", x, 0, 4, 0, Bytes.set(1, 1, 1, 97, 400, 8));
        faulty("13: another seen", x, 0, 4, 0, Bytes.with(set, 3, 1));
        int[] held = Bytes.set(1, 3, 1, 97, 400);
        CHECK.due("13: held", 1, () -> Bytes.hear(x, 0, held));
        CHECK.due("13: held already", 0, () -> Bytes.hear(x, 0, held));
        faulty("13: another than the held one", x, 0, 4, 0, Bytes.set(1, 3, 1, 98, 400));
        faulty("13: another kind", x, 0, 4, 0, Bytes.of(2, 1, 3, 1, 1));
        CHECK.due("13: one held", 1, () -> x.page(0, 2));
        CHECK.due("13: each counted", 6, () -> x.count(3));
    }

    private static void twentyHeld() {
        PenPage x = new PenPage();
        for (int n = 2; n <= 21; n++) {
            int[] packet = Bytes.set(1, n, n, 97, 8 * n);
            CHECK.due("13: held " + n, 1, () -> Bytes.hear(x, 0, packet));
        }
        CHECK.due("13: twenty", 20, () -> x.page(0, 2));
        faulty("13: one more", x, 0, 5, 0, Bytes.set(1, 22, 22, 97, 400));
        CHECK.due("13: a held one is nothing still", 0, () -> Bytes.hear(x, 0, Bytes.set(1, 21, 21, 97, 168)));
        faulty("13: another than a held one", x, 0, 4, 0, Bytes.set(1, 21, 21, 98, 168));
        CHECK.due("13: one that can be had", 2, () -> Bytes.hear(x, 0, Bytes.set(0, 1, 1, 97, 400)));
        CHECK.due("13: the one that they lean on", 2, () -> Bytes.hear(x, 0, Bytes.set(1, 1, 1, 97, 8)));
        CHECK.due("13: all had", 21, () -> x.page(0, 11));
        CHECK.due("13: none held", 0, () -> x.page(0, 2));
        CHECK.due("13: the text", 22, () -> x.page(0, 1));
    }

    private static void heldComeIn() {
        PenPage x = new PenPage();
        x.writers(3);
        x.set(0, 0, 97);
        x.send(0, 1, 0, 1);
        x.set(1, 1, 98);
        x.send(1, 2, 1, 1);
        CHECK.due("13: held for another writer's step", 1, () -> x.page(2, 2));
        x.send(1, 0, 1, 1);
        x.set(0, 2, 99);
        CHECK.due("15: held for both", 1, () -> x.send(0, 2, 0, 2));
        CHECK.due("15: then all", 2, () -> x.send(0, 2, 0, 1));
        CHECK.due("15: none held", 0, () -> x.page(2, 2));
        CHECK.due("15: two of 0", 2, () -> x.page(2, 10));
        CHECK.due("15: one of 1", 1, () -> x.page(2, 11));
        CHECK.due("15: the text", 3, () -> x.page(2, 1));
        CHECK.due("15: the age", 3, () -> x.page(2, 4));
    }

    private static void heldDropped() {
        PenPage x = new PenPage();
        CHECK.due("13: a later step of his own", 1, () -> Bytes.hear(x, 0, Bytes.set(0, 2, 9, 98, 600)));
        CHECK.due("7: the first he does himself", 1, () -> x.set(0, 0, 97));
        CHECK.due("behind it the held one is had", 2, () -> x.page(0, 10));
        CHECK.due("none held", 0, () -> x.page(0, 2));
        CHECK.due("its age", 9, () -> x.page(0, 4));

        PenPage y = new PenPage();
        int[] leaning = Bytes.with(Bytes.set(0, 1, 9, 98, 600), 4, 1);
        CHECK.due("one that leans on another writer's", 1, () -> Bytes.hear(y, 0, leaning));
        CHECK.due("and one behind it", 1, () -> Bytes.hear(y, 0, Bytes.set(0, 3, 9, 98, 600)));
        CHECK.due("7: he does another", 1, () -> y.set(0, 0, 97));
        CHECK.due("the held one is dropped", 1, () -> y.page(0, 2));
        faulty("it is another now", y, 0, 4, 0, leaning);
        CHECK.due("7: and the next", 2, () -> y.set(0, 0, 97));
        CHECK.due("behind it the held one", 3, () -> y.page(0, 10));
        CHECK.due("dropping is not counted", 1, () -> y.count(3));
    }

    private static void countsForNothing() {
        PenPage x = new PenPage();
        Bytes.hear(x, 0, Bytes.set(1, 1, 1, 97, 400));
        CHECK.due("an undo of a step that isn't there", 2, () -> Bytes.hear(x, 0, Bytes.of(2, 1, 2, 2, 0)));
        CHECK.due("it holds", 1, () -> x.step(0, 1, 2, 2));
        CHECK.due("its number", 0, () -> x.step(0, 1, 2, 3));
        CHECK.due("a strike of no mark", 2, () -> Bytes.hear(x, 0, Bytes.of(1, 1, 3, 3, 1, 2)));
        CHECK.due("its mark", 102, () -> x.step(0, 1, 3, 3));
        CHECK.due("a move of no mark", 2, () -> Bytes.hear(x, 0, Bytes.of(3, 1, 4, 4, 1, 1, 2, 1, 0, 8)));
        CHECK.due("a move of one that is none", 2,
                () -> Bytes.hear(x, 0, Bytes.of(3, 1, 5, 5, 2, 1, 1, 1, 0, 8, 1, 2, 1, 0, 16)));
        CHECK.due("the mark shows", 1, () -> x.page(0, 1));
        CHECK.due("with its own key", 400, () -> x.text(0, 0, 10));
        CHECK.due("there is no mark 102", Check.NO_SUCH, () -> x.gone(0, 102) ? 1 : 0);
        CHECK.due("all are had", 5, () -> x.page(0, 11));
        CHECK.due("one mark", 1, () -> x.page(0, 0));
    }

    private static void faultStays() {
        PenPage x = new PenPage();
        faulty("14: a fault", x, 0, 1, 0);
        x.set(0, 0, 97);
        x.send(0, 1, 0, 1);
        Bytes.feed(x, Bytes.set(0, 1, 1, 98, 400));
        CHECK.due("14: send changes nothing of it", 0, x::fault);
        CHECK.due("14: nor a hear that throws", Check.ILLEGAL, () -> x.hear(0, 99));
        CHECK.due("14: as it was", 0, x::fault);
        CHECK.due("14: a packet that goes on", 11, () -> x.hear(0, 20));
        CHECK.due("14: its place", 15, x::fault);
        Bytes.hear(x, 0, Bytes.set(1, 1, 1, 98, 400));
        CHECK.due("14: none", PenPage.NONE, x::fault);
    }

    private static void sends() {
        PenPage x = new PenPage();
        for (int n = 1; n <= 22; n++) {
            x.set(0, 0, 97);
        }
        for (int n = 22; n >= 3; n--) {
            int number = n;
            CHECK.due("15: held " + n, 1, () -> x.send(0, 1, 0, number));
        }
        CHECK.due("15: held already", 0, () -> x.send(0, 1, 0, 22));
        CHECK.due("15: would hold 21", PenPage.NONE, () -> x.send(0, 1, 0, 2));
        CHECK.due("15: counted as a packet", 1, () -> x.count(3));
        CHECK.due("15: not as an act", 0, () -> x.count(2));
        CHECK.due("14: no fault of a hear", PenPage.NONE, x::fault);
        CHECK.due("15: the first", 2, () -> x.send(0, 1, 0, 1));
        CHECK.due("15: the second, and all", 2, () -> x.send(0, 1, 0, 2));
        CHECK.due("15: all are there", 22, () -> x.page(1, 10));
        CHECK.due("15: to itself", 0, () -> x.send(0, 0, 0, 1));
        int[][] wrong = {{0, 1, 0, 23}, {0, 1, 0, 0}, {0, 1, 1, 1}, {0, 1, 2, 1}, {0, 1, -1, 1}, {2, 1, 0, 1}, {0, 2, 0, 1},
            {-1, 1, 0, 1}, {0, -1, 0, 1}};
        for (int[] s : wrong) {
            CHECK.due("15: send " + s[0] + ", " + s[1] + ", " + s[2] + ", " + s[3], Check.NO_SUCH,
                    () -> x.send(s[0], s[1], s[2], s[3]));
        }
        PenPage y = new PenPage();
        y.set(0, 0, 97);
        Bytes.hear(y, 1, Bytes.set(0, 1, 1, 98, 400));
        CHECK.due("15: has another such", PenPage.NONE, () -> y.send(0, 1, 0, 1));
        CHECK.due("15: counted", 1, () -> y.count(3));
    }
}
