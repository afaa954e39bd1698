import java.util.Arrays;
import java.util.function.IntPredicate;

/** Each edge that "==== 4" and promises 11 to 18 name: PACKETS, their FAULTS, what is HEARD and HELD, LACKS. */
public final class PacketEdgesTest {
    private static final Check CHECK = new Check();
    private static final int LEAST = Integer.MIN_VALUE;
    private static final int MOST = Integer.MAX_VALUE;
    /** Writer 1's third step of three writers; he has seen four of writer 0 and none of writer 2. */
    private static final int[] SET = Bytes.seeing(Bytes.set(1, 3, 300, 97, 0, 799, 8), 0, 4);
    private static final int[] STRIKE = Bytes.seeing(Bytes.of(1, 1, 3, 300, 0, 4), 0, 4);
    private static final int[] UNDO = Bytes.seeing(Bytes.of(2, 1, 3, 300, 2), 0, 4);
    private static final int[] MOVE = Bytes.seeing(Bytes.move(1, 3, 300, new int[] {4, 0, 8}, new int[] {101, 799}), 0, 4);
    private static final int[][] KINDS = {SET, STRIKE, UNDO, MOVE};

    public static void main(String[] args) {
        headBytes();
        writersOfPackets();
        ageBytes();
        signByte();
        keyBytes();
        strikeBytes();
        undoByte();
        moveBytes();
        markTwice();
        sumByte();
        endsTooSoon();
        goesOnBehind();
        firstAlong();
        faultyChangesNothing();
        packetsOfSteps();
        greatestPacket();
        packetRefused();
        feeding();
        hearing();
        heardTwice();
        heldUntilSeen();
        heldAreNotHad();
        anotherStep();
        twentyHeld();
        heldDropped();
        behindOwnSteps();
        countsForNothing();
        faultPlaces();
        sending();
        lacking();
        CHECK.finish();
    }

    private static PenPage three() {
        PenPage x = new PenPage();
        x.writers(3);
        return x;
    }

    /** What a new page of three writers answers to a packet: 0 if it takes it, else 1000 by the FAULT and its place. */
    private static int faultOf(int... packet) {
        PenPage x = three();
        int answer = Bytes.hear(x, 0, packet);
        return answer < 10 ? 0 : 1000 * (answer - 10) + x.fault();
    }

    /** Every value of one byte, the last one put right: those that can't be are FAULT 2 at that byte. */
    private static void canBe(String what, int[] packet, int place, IntPredicate can) {
        for (int value = 0; value < 256; value++) {
            int[] changed = Bytes.with(packet, place, value);
            CHECK.due(what + " " + value, can.test(value) ? 0 : 2000 + place, () -> faultOf(changed));
        }
    }

    private static void fault(String what, int fault, int place, int... packet) {
        CHECK.due(what, 1000 * fault + place, () -> faultOf(packet));
    }

    private static void fine(String what, int... packet) {
        CHECK.due(what, 0, () -> faultOf(packet));
    }

    private static void had(PenPage x, int page, int... packet) {
        CHECK.due("had " + Arrays.toString(packet), 2, () -> Bytes.hear(x, page, packet));
    }

    private static void held(PenPage x, int page, int... packet) {
        CHECK.due("held " + Arrays.toString(packet), 1, () -> Bytes.hear(x, page, packet));
    }

    private static void headBytes() {
        CHECK.sentence("KIND above 3, no such WRITER, a number not 1 to 60, SEEN above 60, of its own WRITER not one less than its number, "
                + "of one that there isn't not 0");
        for (int[] packet : KINDS) {
            fine("as it is", packet);
            for (int kind : new int[] {4, 5, 128, 255}) {
                fault("kind " + kind, 2, 0, Bytes.with(packet, 0, kind));
            }
            for (int writer : new int[] {3, 4, 5, 128, 255}) {
                fault("writer " + writer, 2, 1, Bytes.with(packet, 1, writer));
            }
            fault("writer 0 has seen 4 of himself", 2, 3, Bytes.with(packet, 1, 0));
            fault("writer 2 has seen none of himself", 2, 5, Bytes.with(packet, 1, 2));
            for (int number : new int[] {0, 61, 128, 255}) {
                fault("number " + number, 2, 2, Bytes.with(packet, 2, number));
            }
            for (int number : new int[] {1, 2, 4, 60}) {
                fault("number " + number + " has seen 2 of his own", 2, 4, Bytes.with(packet, 2, number));
            }
            canBe("own seen", packet, 4, seen -> seen == 2);
            canBe("another's seen", packet, 5, seen -> seen <= 60);
            canBe("seen of writer 3, who isn't there", packet, 6, seen -> seen == 0);
            canBe("seen of writer 4, who isn't there", packet, 7, seen -> seen == 0);
        }
        canBe("the first writer's seen", SET, 3, seen -> seen <= 60);
        fine("number 1", Bytes.set(1, 1, 1, 97, 8));
        fine("number 60", Bytes.set(1, 60, 1, 97, 8));
        fine("writer 2", Bytes.set(2, 1, 1, 97, 8));
    }

    private static void writersOfPackets() {
        CHECK.sentence("SEEN of WRITERS 0 to 4 (0 of those that there aren't)");
        for (int n = 1; n <= 5; n++) {
            PenPage x = new PenPage();
            x.writers(n);
            int last = n - 1;
            CHECK.due("of the last of " + n, 2, () -> Bytes.hear(x, 0, Bytes.set(last, 1, 1, 97, 400)));
            for (int w = n; w < 5; w++) {
                int none = w;
                CHECK.due("of writer " + w + " of " + n, 12, () -> Bytes.hear(x, 0, Bytes.set(none, 1, 1, 97, 400)));
                CHECK.due("at the writer", 1, x::fault);
                CHECK.due("seen of him", 12, () -> Bytes.hear(x, 0, Bytes.seeing(Bytes.set(last, 2, 1, 97, 400), none, 1)));
                CHECK.due("at that", 3 + w, x::fault);
                CHECK.due("a mark of his", 12, () -> Bytes.hear(x, 0, Bytes.of(1, last, 2, 1, none, 1)));
                CHECK.due("at the mark", 10, x::fault);
            }
            for (int w = 0; w < last; w++) {
                int other = w;
                CHECK.due("seen of one that there is", 1,
                        () -> Bytes.hear(x, 0, Bytes.seeing(Bytes.set(last, 2 + other, 1, 97, 400), other, 60)));
            }
            x.set(last, 0, 97);
            int[] done = Bytes.read(x, last, last, 1);
            CHECK.due("a step done here has seen none", 0, () -> done[3] + done[4] + done[5] + done[6] + done[7]);
        }
    }

    private static void ageBytes() {
        CHECK.sentence("AGE 0");
        for (int[] packet : KINDS) {
            for (int age : new int[] {1, 255, 256, 257, 32768, 65280, 65535}) {
                fine("age " + age, Bytes.with(Bytes.with(packet, 8, age / 256), 9, age % 256));
            }
            fault("age 0", 2, 8, Bytes.with(Bytes.with(packet, 8, 0), 9, 0));
        }
        PenPage x = three();
        had(x, 0, Bytes.set(1, 1, 65535, 97, 8));
        CHECK.due("the greatest", 65535, () -> x.step(0, 1, 1, 1));
        PenPage y = three();
        had(y, 0, Bytes.set(1, 1, 256, 97, 8));
        CHECK.due("by 256 and the rest", 256, () -> y.step(0, 1, 1, 1));
    }

    private static void signByte() {
        CHECK.sentence("AGE 0, SIGN, how many");
        canBe("sign", SET, 10, sign -> sign >= 32 && sign <= 126);
    }

    private static void keyBytes() {
        CHECK.sentence("how many, a NUMBER above 799, the last below 8");
        fault("a key of none", 2, 11, Bytes.set(1, 3, 5, 97));
        for (int many : new int[] {25, 26, 128, 255}) {
            fault("a key of " + many, 2, 11, Bytes.with(SET, 11, many));
        }
        for (int number = 0; number < 1100; number++) {
            int[] first = Bytes.set(1, 3, 5, 97, number, 8);
            CHECK.due("first number " + number, number <= 799 ? 0 : 2012, () -> faultOf(first));
            int[] last = Bytes.set(1, 3, 5, 97, 0, number);
            CHECK.due("last number " + number, number >= 8 && number <= 799 ? 0 : 2014, () -> faultOf(last));
            int[] only = Bytes.set(1, 3, 5, 97, number);
            CHECK.due("only number " + number, number >= 8 && number <= 799 ? 0 : 2012, () -> faultOf(only));
        }
        for (int number : new int[] {2048 + 8, 32768 + 8, 65535}) {
            fault("number " + number, 2, 12, Bytes.set(1, 3, 5, 97, number));
        }
    }

    private static void strikeBytes() {
        CHECK.sentence("a MARK whose number is 0 or above what it has SEEN of its WRITER");
        canBe("number of writer 0's mark", STRIKE, 11, number -> number >= 1 && number <= 4);
        canBe("number of his own", Bytes.with(STRIKE, 10, 1), 11, number -> number >= 1 && number <= 2);
        fault("of a writer of whom he has seen none", 2, 11, Bytes.with(STRIKE, 10, 2));
        for (int writer : new int[] {3, 4, 5, 128, 255}) {
            fault("no such writer: " + writer, 2, 10, Bytes.with(STRIKE, 10, writer));
        }
        canBe("with 60 seen", Bytes.seeing(STRIKE, 0, 60), 11, number -> number >= 1 && number <= 60);
        canBe("his first step has no mark of his own", Bytes.of(1, 1, 1, 5, 1, 0), 11, number -> false);
    }

    private static void undoByte() {
        CHECK.sentence("an UNDO's STEP not below its number");
        canBe("undo of", UNDO, 10, number -> number < 3);
        canBe("the first step undoes", Bytes.of(2, 1, 1, 5, 0), 10, number -> number < 1);
        canBe("the last step undoes", Bytes.of(2, 1, 60, 5, 0), 10, number -> number < 60);
    }

    private static void moveBytes() {
        CHECK.sentence("of a MOVE how many, and for each a MARK and a KEY");
        int[][] seven = new int[7][];
        for (int i = 0; i < 7; i++) {
            seven[i] = new int[] {i + 1, 8 * i + 8};
        }
        for (int many = 1; many <= 6; many++) {
            fine("a move of " + many, Bytes.seeing(Bytes.move(1, 3, 5, Arrays.copyOf(seven, many)), 0, 7));
        }
        fault("a move of none", 2, 10, Bytes.move(1, 3, 5));
        fault("a move of seven", 2, 10, Bytes.seeing(Bytes.move(1, 3, 5, seven), 0, 7));
        fault("a move of 255", 2, 10, Bytes.with(MOVE, 10, 255));
        for (int writer : new int[] {3, 5, 255}) {
            fault("no such writer: " + writer, 2, 11, Bytes.with(MOVE, 11, writer));
            fault("no such writer of the second: " + writer, 2, 18, Bytes.with(MOVE, 18, writer));
        }
        canBe("the first mark's number", MOVE, 12, number -> number >= 1 && number <= 4);
        canBe("the second mark's number", MOVE, 19, number -> number >= 1 && number <= 2);
        fault("a key of none", 2, 13, Bytes.with(MOVE, 13, 0));
        fault("a key of 25", 2, 13, Bytes.with(MOVE, 13, 25));
        fault("a number above 799", 2, 14, Bytes.with(MOVE, 14, 4));
        fault("the last below 8", 2, 16, Bytes.with(MOVE, 17, 7));
        fault("the second's key of none", 2, 20, Bytes.with(MOVE, 20, 0));
        fault("the second's number of 800", 2, 21, Bytes.with(MOVE, 22, 32));
    }

    private static void markTwice() {
        CHECK.sentence("a MARK twice (its first byte)");
        int[] a = {1, 8};
        int[] b = {2, 8};
        int[] c = {101, 8};
        fault("at once", 2, 16, Bytes.seeing(Bytes.move(1, 3, 5, a, a), 0, 4));
        fault("the third as the first", 2, 21, Bytes.seeing(Bytes.move(1, 3, 5, a, b, a), 0, 4));
        fault("the third as the second", 2, 21, Bytes.seeing(Bytes.move(1, 3, 5, a, c, c), 0, 4));
        fault("the sixth as the first", 2, 36, Bytes.seeing(Bytes.move(1, 3, 5, a, b, c, new int[] {3, 8}, new int[] {4, 8}, a), 0, 4));
        fault("with another key", 2, 16, Bytes.seeing(Bytes.move(1, 3, 5, a, new int[] {1, 700}), 0, 4));
        fault("twice ahead of its wrong key", 2, 16, Bytes.seeing(Bytes.move(1, 3, 5, a, new int[] {1, 7}), 0, 4));
        fine("of like numbers, of unlike writers", Bytes.seeing(Bytes.move(1, 3, 5, a, c), 0, 4));
        fine("like keys", Bytes.seeing(Bytes.move(1, 3, 5, a, b), 0, 4));
    }

    private static void sumByte() {
        CHECK.sentence("then all bytes ahead, together, MOD 256");
        for (int[] packet : KINDS) {
            int last = packet.length - 1;
            for (int value = 0; value < 256; value++) {
                int[] changed = packet.clone();
                changed[last] = value;
                CHECK.due("sum " + value, value == packet[last] ? 0 : 3000 + last, () -> faultOf(changed));
            }
        }
        for (int sign = 32; sign <= 126; sign++) {
            int[] packet = Bytes.set(1, 3, 65535, sign, 799, 255);
            int together = Arrays.stream(Arrays.copyOf(packet, packet.length - 1)).sum();
            CHECK.due("a sum of " + together, together % 256, () -> packet[packet.length - 1]);
            fine("a sum of " + together, packet);
            PenPage x = three();
            x.set(0, 0, sign);
            CHECK.due("of a step done here", Arrays.stream(Bytes.read(x, 0, 0, 1)).limit(14).sum() % 256, () -> x.packet(0, 0, 1, 14));
        }
    }

    private static void endsTooSoon() {
        CHECK.sentence("1 it ends too soon (its length)");
        for (int[] packet : KINDS) {
            for (int length = 0; length < packet.length; length++) {
                fault("cut to " + length, 1, length, Arrays.copyOf(packet, length));
            }
        }
        fault("nothing", 1, 0);
        fault("more numbers told than are there", 1, 16, 0, 1, 3, 0, 2, 0, 0, 0, 0, 5, 97, 24, 0, 8, 0, 9);
    }

    private static void goesOnBehind() {
        CHECK.sentence("or goes on behind its end");
        for (int[] packet : KINDS) {
            for (int more : new int[] {1, 2, 20}) {
                fault(more + " more", 1, packet.length, Arrays.copyOf(packet, packet.length + more));
            }
        }
    }

    private static void firstAlong() {
        CHECK.sentence("FAULTS of a PACKET, the first along its bytes");
        int[] wrong = SET.clone();
        wrong[wrong.length - 1] ^= 1;
        wrong = Arrays.copyOf(wrong, wrong.length + 1);
        fault("the sum ahead of what goes on", 3, SET.length - 1, wrong);
        int[][] put = {{17, 7}, {14, 4}, {11, 25}, {10, 31}, {7, 1}, {6, 1}, {5, 61}, {4, 3}, {3, 61}, {2, 0}, {1, 3}, {0, 4}};
        for (int[] p : put) {
            wrong[p[0]] = p[1];
            int[] all = wrong.clone();
            int place = p[0] == 17 ? 16 : p[0];
            int whole = place >= 12 ? place + 2 : place + 1;
            fault("byte " + place + " ahead of all behind", 2, place, all);
            fault("and ahead of the end", 2, place, Arrays.copyOf(all, whole));
            fault("but the end ahead of it", 1, place, Arrays.copyOf(all, place));
        }
        fault("a number cut in two", 1, 17, Arrays.copyOf(SET, 17));
        fault("an age cut in two", 1, 9, Arrays.copyOf(SET, 9));
        for (int high : new int[] {3, 4, 255}) {
            fault("a number is judged by both its bytes, " + high, 1, 13, Arrays.copyOf(Bytes.with(SET, 12, high), 13));
        }
    }

    private static void faultyChangesNothing() {
        CHECK.sentence("1 PACKETS with a FAULT");
        PenPage x = new PenPage();
        had(x, 0, Bytes.set(1, 1, 1, 97, 400));
        held(x, 0, Bytes.set(1, 3, 1, 97, 400));
        int[] next = Bytes.set(1, 2, 1, 97, 400);
        int[] sum = next.clone();
        sum[14] ^= 1;
        int[][] wrong = {Arrays.copyOf(next, 14), Arrays.copyOf(next, 16), Bytes.with(next, 10, 31), sum, Bytes.set(1, 1, 1, 98, 400),
            Bytes.set(1, 3, 1, 98, 400)};
        int[] due = {11, 11, 12, 13, 14, 14};
        for (int i = 0; i < wrong.length; i++) {
            int[] packet = wrong[i];
            CHECK.due("fault " + i, due[i], () -> Bytes.hear(x, 0, packet));
            CHECK.due("counted", i + 1, () -> x.count(3));
            CHECK.due("one had", 1, () -> x.page(0, 11));
            CHECK.due("one held", 1, () -> x.page(0, 2));
            CHECK.due("the tape is empty", 0, () -> x.count(1));
        }
        CHECK.due("no acts", 0, () -> x.count(2));
        CHECK.due("no story", 0, () -> x.count(4));
        CHECK.due("rightly told it comes", 2, () -> Bytes.hear(x, 0, next));
        CHECK.due("not counted", 6, () -> x.count(3));
        CHECK.due("with the held one", 3, () -> x.page(0, 11));
    }

    private static void packetsOfSteps() {
        CHECK.sentence("A PACKET of a STEP, in bytes");
        PenPage x = three();
        for (int n = 1; n <= 4; n++) {
            x.set(0, 0, 97);
            x.send(0, 1, 0, n);
        }
        x.set(1, 0, 98);
        x.set(1, 0, 98);
        x.strike(1, 0);
        x.undo(1, 3);
        x.move(1, 0, 5, 6);
        for (int n = 1; n <= 5; n++) {
            int number = n;
            int[] bytes = Bytes.read(x, 1, 1, n);
            CHECK.due("its number", n, () -> bytes[2]);
            CHECK.due("a page that lacks it can be told", 1, () -> Bytes.hear(x, 2, bytes));
            CHECK.due("the page that has it hears nothing new", 0, () -> Bytes.hear(x, 1, bytes));
            CHECK.due("its kind", bytes[0], () -> x.step(1, 1, number, 0));
        }
        for (int n = 4; n >= 1; n--) {
            x.send(0, 2, 0, n);
        }
        CHECK.due("all come in", 0, () -> x.lacks(2, 1, PenPage.NONE));
        CHECK.due("alike", 1, () -> x.alike(1, 2) ? 1 : 0);
    }

    private static void greatestPacket() {
        CHECK.sentence("its length (i NONE)");
        int[] longest = new int[25];
        Arrays.fill(longest, 799);
        int[][] six = new int[6][];
        for (int i = 0; i < 6; i++) {
            six[i] = longest.clone();
            six[i][0] = 101 + i;
        }
        int[] packet = Bytes.move(1, 7, 65535, six);
        PenPage x = new PenPage();
        for (int n = 1; n <= 6; n++) {
            had(x, 0, Bytes.set(1, n, n, 97, 8 * n));
        }
        had(x, 0, packet);
        CHECK.due("six marks of keys of 24", 318, () -> x.packet(0, 1, 7, PenPage.NONE));
        CHECK.yes("byte for byte", Arrays.equals(packet, Bytes.read(x, 0, 1, 7)));
        CHECK.due("the last byte", packet[317], () -> x.packet(0, 1, 7, 317));
        CHECK.due("none behind it", Check.NO_SUCH, () -> x.packet(0, 1, 7, 318));
        CHECK.due("the sixth's last number", 799, () -> x.text(0, 5, 33));
        CHECK.due("it goes by send", 1, () -> x.send(0, 1, 1, 7));
    }

    private static void packetRefused() {
        CHECK.sentence("NoSuchElementException: also it hasn't, there is none");
        PenPage x = three();
        x.set(0, 0, 97);
        held(x, 0, Bytes.set(1, 2, 1, 97, 8));
        CHECK.due("length", 15, () -> x.packet(0, 0, 1, PenPage.NONE));
        CHECK.due("the first byte", 0, () -> x.packet(0, 0, 1, 0));
        CHECK.due("the last byte", 1 + 1 + 97 + 1 + 1 + 144, () -> x.packet(0, 0, 1, 14));
        for (int i : new int[] {-2, 15, LEAST, MOST}) {
            CHECK.due("byte " + i, Check.NO_SUCH, () -> x.packet(0, 0, 1, i));
        }
        int[][] none = {{0, 0, 0}, {0, 0, 2}, {0, 0, -1}, {0, 0, 60}, {0, 0, 61}, {0, 0, LEAST}, {0, 0, MOST}, {0, 1, 1}, {0, 1, 2},
            {0, 2, 1}, {0, 3, 1}, {0, 5, 1}, {0, -1, 1}, {0, LEAST, 1}, {0, MOST, 1}, {1, 0, 1}, {3, 0, 1}, {-1, 0, 1}};
        for (int[] n : none) {
            CHECK.due("packet of " + Arrays.toString(n), Check.NO_SUCH, () -> x.packet(n[0], n[1], n[2], PenPage.NONE));
            CHECK.due("its first byte", Check.NO_SUCH, () -> x.packet(n[0], n[1], n[2], 0));
        }
    }

    private static void feeding() {
        CHECK.sentence("Twenty bytes come behind the tape, of each number the highest first: how many it has");
        PenPage x = new PenPage();
        // Writer 1's first step, a set of '~' of age 65535 under the key 799, 255 by the numbers' four bytes each.
        int[] packet = Bytes.set(1, 1, 65535, 126, 799, 255);
        int[] n = Bytes.numbers(packet, 0);
        CHECK.due("its first number", 0x00010100, () -> n[0]);
        CHECK.due("a number below 0", 0xFFFF7E02, () -> n[2]);
        CHECK.due("twenty", 20, () -> x.feed(n[0], n[1], n[2], n[3], n[4]));
        CHECK.due("heard as they came", 2, () -> x.hear(0, packet.length));
        CHECK.yes("byte for byte", Arrays.equals(packet, Bytes.read(x, 0, 1, 1)));

        CHECK.sentence("NONE, and none come, if it would have more than 400");
        PenPage y = new PenPage();
        for (int many = 20; many <= 400; many += 20) {
            CHECK.due("feed", many, () -> y.feed(0, 0, 0, 0, 0));
        }
        CHECK.due("420", PenPage.NONE, () -> y.feed(-1, -1, -1, -1, -1));
        CHECK.due("none came", 400, () -> y.count(1));
        CHECK.due("again", PenPage.NONE, () -> y.feed(-1, -1, -1, -1, -1));
        for (int what = 2; what <= 4; what++) {
            int status = what;
            CHECK.due("counted nowhere", 0, () -> y.count(status));
        }
        CHECK.due("all 400 can be heard", 12, () -> y.hear(0, 400));
        CHECK.due("then there is room", 20, () -> y.feed(0, 0, 0, 0, 0));
    }

    private static void hearing() {
        CHECK.sentence("A PAGE hears the tape's first n bytes as a PACKET (it is empty then)");
        PenPage x = new PenPage();
        int[] packet = Bytes.set(1, 1, 1, 97, 400);
        Bytes.feed(x, packet);
        Bytes.feed(x, packet);
        CHECK.due("forty", 40, () -> x.count(1));
        CHECK.due("the first fifteen", 2, () -> x.hear(0, 15));
        CHECK.due("all forty are gone", 0, () -> x.count(1));
        CHECK.due("so nothing is a packet that ends too soon", 11, () -> x.hear(0, 0));
        CHECK.due("at its length", 0, x::fault);
        Bytes.feed(x, packet);
        CHECK.due("all twenty", 11, () -> x.hear(1, 20));
        CHECK.due("go on behind", 15, x::fault);

        CHECK.sentence("IllegalArgumentException (behind NoSuchElementException): the tape has not so many, n below 0 (nothing changes)");
        CHECK.due("an empty tape has not one", Check.ILLEGAL, () -> x.hear(0, 1));
        Bytes.feed(x, packet);
        int faulty = x.count(3);
        for (int n : new int[] {21, 400, 401, -1, LEAST, MOST}) {
            CHECK.due("hear " + n, Check.ILLEGAL, () -> x.hear(1, n));
            CHECK.due("hear " + n + " of no page", Check.NO_SUCH, () -> x.hear(2, n));
            CHECK.due("hear " + n + " of page -1", Check.NO_SUCH, () -> x.hear(-1, n));
        }
        CHECK.due("no such page", Check.NO_SUCH, () -> x.hear(2, 15));
        CHECK.due("the tape is as it was", 20, () -> x.count(1));
        CHECK.due("nothing is counted", faulty, () -> x.count(3));
        CHECK.due("the latest fault stays", 15, x::fault);
        CHECK.due("the bytes are as they were", 2, () -> x.hear(1, 15));
    }

    private static void heardTwice() {
        CHECK.sentence("HEARD by a PAGE: one that it has already, or HELD: nothing (0)");
        PenPage x = new PenPage();
        int[] first = Bytes.set(1, 1, 1, 97, 400);
        int[] third = Bytes.set(1, 3, 1, 97, 400);
        had(x, 0, first);
        CHECK.due("had", 0, () -> Bytes.hear(x, 0, first));
        held(x, 0, third);
        CHECK.due("held", 0, () -> Bytes.hear(x, 0, third));
        CHECK.due("one had", 1, () -> x.page(0, 11));
        CHECK.due("one held", 1, () -> x.page(0, 2));
        CHECK.due("no fault", PenPage.NONE, x::fault);
        CHECK.due("nothing counted", 0, () -> x.count(3));
        x.set(0, 0, 97);
        int[] own = Bytes.read(x, 0, 0, 1);
        CHECK.due("his own that he did", 0, () -> Bytes.hear(x, 0, own));
        CHECK.due("sent to himself", 0, () -> x.send(0, 0, 0, 1));
    }

    private static void heldUntilSeen() {
        CHECK.sentence("If it lacks one of what it has SEEN: HELD (1). Else it has it (2)");
        PenPage x = new PenPage();
        x.writers(5);
        int[] leaning = Bytes.set(4, 1, 9, 97, 400);
        for (int w = 0; w < 4; w++) {
            leaning = Bytes.seeing(leaning, w, 2);
        }
        held(x, 0, leaning);
        for (int w = 3; w >= 0; w--) {
            had(x, 0, Bytes.set(w, 1, 1, 97, 8));
            CHECK.due("it lacks still", 0, () -> x.page(0, 14));
            if (w > 0) {
                had(x, 0, Bytes.set(w, 2, 1, 97, 8));
                CHECK.due("it lacks of writer " + (w - 1), 0, () -> x.page(0, 14));
            }
        }
        had(x, 0, Bytes.set(0, 2, 1, 97, 8));
        CHECK.due("with the last of them it is had", 1, () -> x.page(0, 14));
        CHECK.due("none held", 0, () -> x.page(0, 2));
        had(x, 0, Bytes.seeing(Bytes.set(1, 3, 9, 97, 400), 0, 2));
        held(x, 0, Bytes.seeing(Bytes.set(2, 3, 9, 97, 400), 0, 3));
        held(x, 0, Bytes.set(3, 4, 9, 97, 400));

        CHECK.sentence("and so on with HELD ones, as long as one can be");
        PenPage y = three();
        held(y, 0, Bytes.seeing(Bytes.set(2, 2, 6, 97, 48), 1, 2));
        held(y, 0, Bytes.seeing(Bytes.set(1, 2, 4, 97, 32), 2, 1));
        held(y, 0, Bytes.seeing(Bytes.set(2, 1, 3, 97, 24), 1, 1));
        held(y, 0, Bytes.set(1, 4, 4, 97, 32));
        had(y, 0, Bytes.set(1, 1, 1, 97, 16));
        CHECK.due("of 1 two", 2, () -> y.page(0, 11));
        CHECK.due("of 2 two", 2, () -> y.page(0, 12));
        CHECK.due("one is held still", 1, () -> y.page(0, 2));
        CHECK.due("the greatest age is of what is had", 6, () -> y.page(0, 4));
    }

    private static void heldAreNotHad() {
        CHECK.sentence("A PAGE has of each WRITER his STEPS 1 to some number, and others HELD");
        PenPage x = new PenPage();
        held(x, 0, Bytes.set(1, 2, 500, 97, 400));
        CHECK.due("one held", 1, () -> x.page(0, 2));
        CHECK.due("no mark", 0, () -> x.page(0, 0));
        CHECK.due("no text", 0, () -> x.page(0, 1));
        CHECK.due("no age", 0, () -> x.page(0, 4));
        CHECK.due("no steps", 0, () -> x.page(0, 11));
        CHECK.due("no step", Check.NO_SUCH, () -> x.step(0, 1, 2, 0));
        CHECK.due("no packet", Check.NO_SUCH, () -> x.packet(0, 1, 2, 0));
        CHECK.due("nothing to send", Check.NO_SUCH, () -> x.send(0, 1, 1, 2));
        CHECK.due("no mark to be gone", Check.NO_SUCH, () -> x.gone(0, 102) ? 1 : 0);
        CHECK.due("the other page lacks nothing", 0, () -> x.lacks(1, 0, PenPage.NONE));
        CHECK.due("alike", 1, () -> x.alike(0, 1) ? 1 : 0);
        CHECK.due("no packets make them so", 0, () -> x.fewest(0, 1));
    }

    private static void anotherStep() {
        CHECK.sentence("4 (at 0) the PAGE has another STEP of that WRITER and number, or HOLDS one");
        for (int[] packet : KINDS) {
            for (int place : new int[] {5, 8, 9, packet.length - 2}) {
                int value = place == packet.length - 2 && packet[0] != 0 ? packet[place] - 1 : packet[place] + 1;
                int[] other = Bytes.with(packet, place, value);
                boolean can = faultOf(other) == 0;
                PenPage x = three();
                held(x, 0, packet);
                CHECK.due("another than the held one by byte " + place, can ? 14 : 12, () -> Bytes.hear(x, 0, other));
                CHECK.due("its place", can ? 0 : place, x::fault);
                CHECK.due("the held one stays", 0, () -> Bytes.hear(x, 0, packet));
            }
        }
        PenPage y = new PenPage();
        y.set(0, 0, 97);
        CHECK.due("another than he did himself", 14, () -> Bytes.hear(y, 0, Bytes.set(0, 1, 1, 98, 400)));
        CHECK.due("at 0", 0, y::fault);
        CHECK.due("his own stays", 97, () -> y.text(0, 0, 0));
        int[] strike = Bytes.of(2, 0, 1, 1, 0);
        CHECK.due("of another kind and length", 14, () -> Bytes.hear(y, 0, strike));
        PenPage z = three();
        held(z, 0, Bytes.set(1, 3, 9, 97, 400));
        held(z, 0, Bytes.set(2, 2, 9, 97, 400));
        held(z, 0, Bytes.set(1, 2, 9, 97, 400));
        held(z, 0, Bytes.set(2, 3, 9, 97, 400));
        CHECK.due("like numbers of unlike writers are no others", 4, () -> z.page(0, 2));
        int[] sum = Bytes.set(0, 1, 1, 98, 400);
        sum[14] ^= 1;
        CHECK.due("a wrong sum is told ahead of it", 13, () -> Bytes.hear(y, 0, sum));
        CHECK.due("at its place", 14, y::fault);
    }

    private static PenPage holding(int many) {
        PenPage x = new PenPage();
        for (int n = 2; n <= many + 1; n++) {
            held(x, 0, Bytes.set(1, n, n, 97, 8 * n));
        }
        return x;
    }

    private static void twentyHeld() {
        CHECK.sentence("5 (at 0) it HOLDS 20 and this would be one more");
        PenPage x = holding(19);
        held(x, 0, Bytes.set(0, 2, 9, 97, 400));
        CHECK.due("twenty", 20, () -> x.page(0, 2));
        CHECK.due("one more", 15, () -> Bytes.hear(x, 0, Bytes.set(1, 22, 9, 97, 400)));
        CHECK.due("at 0", 0, x::fault);
        CHECK.due("one more of another writer", 15, () -> Bytes.hear(x, 0, Bytes.set(0, 3, 9, 97, 400)));
        CHECK.due("each counted", 2, () -> x.count(3));
        CHECK.due("twenty still", 20, () -> x.page(0, 2));
        CHECK.due("a held one", 0, () -> Bytes.hear(x, 0, Bytes.set(1, 20, 20, 97, 160)));
        CHECK.due("another than a held one", 14, () -> Bytes.hear(x, 0, Bytes.set(1, 20, 20, 98, 160)));
        CHECK.due("a wrong one", 12, () -> Bytes.hear(x, 0, Bytes.set(1, 30, 0, 98, 160)));
        CHECK.due("one that can be had, and the held one of his with it", 2, () -> Bytes.hear(x, 0, Bytes.set(0, 1, 1, 97, 400)));
        CHECK.due("nineteen", 19, () -> x.page(0, 2));
        held(x, 0, Bytes.set(1, 60, 9, 97, 400));
        CHECK.due("twenty again", 15, () -> Bytes.hear(x, 0, Bytes.set(1, 59, 9, 97, 400)));
        had(x, 0, Bytes.set(1, 1, 1, 97, 8));
        CHECK.due("the nineteen are had", 20, () -> x.page(0, 11));
        CHECK.due("one is held", 1, () -> x.page(0, 2));
        CHECK.due("the other page holds none", 0, () -> x.page(1, 2));
    }

    private static void heldDropped() {
        CHECK.sentence("HELD ones of which the PAGE has another by then (that its WRITER did himself) are dropped");
        PenPage x = holding(19);
        held(x, 0, Bytes.seeing(Bytes.set(0, 1, 9, 98, 600), 1, 60));
        CHECK.due("twenty", 20, () -> x.page(0, 2));
        CHECK.due("he does another", 1, () -> x.set(0, 0, 97));
        CHECK.due("the held one is dropped", 19, () -> x.page(0, 2));
        CHECK.due("his own is had", 97, () -> x.text(0, 0, 0));
        CHECK.due("dropping is no fault", 0, () -> x.count(3));
        held(x, 0, Bytes.seeing(Bytes.set(0, 2, 9, 98, 600), 1, 2));
        CHECK.due("the other one comes again", 14, () -> Bytes.hear(x, 0, Bytes.seeing(Bytes.set(0, 1, 9, 98, 600), 1, 60)));
        CHECK.due("a strike of his overtakes the second", 2, () -> x.strike(0, 0));
        CHECK.due("nineteen again", 19, () -> x.page(0, 2));
        CHECK.due("it is his strike", 1, () -> x.step(0, 0, 2, 0));
    }

    private static void behindOwnSteps() {
        CHECK.sentence("(So it is, too, behind each STEP that the PAGE's WRITER does.)");
        PenPage x = new PenPage();
        for (int n = 1; n <= 4; n++) {
            held(x, 0, Bytes.seeing(Bytes.set(1, n, 10 * n, 98, 8 * n), 0, n));
        }
        CHECK.due("set", 1, () -> x.set(0, 0, 97));
        CHECK.due("one of 1", 1, () -> x.page(0, 11));
        CHECK.due("strike", 2, () -> x.strike(0, 1));
        CHECK.due("two of 1", 2, () -> x.page(0, 11));
        CHECK.due("undo", 3, () -> x.undo(0, 2));
        CHECK.due("three of 1", 3, () -> x.page(0, 11));
        CHECK.due("move", 4, () -> x.move(0, 0, 0, 1));
        CHECK.due("four of 1", 4, () -> x.page(0, 11));
        CHECK.due("none held", 0, () -> x.page(0, 2));
        CHECK.due("the ages count then", 31, () -> x.step(0, 0, 4, 1));
        CHECK.due("the greatest", 40, () -> x.page(0, 4));
        CHECK.due("all in the text", 5, () -> x.page(0, 1));
    }

    private static void countsForNothing() {
        CHECK.sentence("A STEP that can't be done there (a MARK that is no SET, an UNDO of a STEP that isn't there) counts for nothing, "
                + "but is had");
        PenPage x = new PenPage();
        had(x, 0, Bytes.set(1, 1, 1, 97, 400));
        had(x, 0, Bytes.of(2, 1, 2, 2, 0));
        CHECK.due("an undo of step 0 undoes nothing", 1, () -> x.step(0, 1, 1, 2));
        CHECK.due("it holds itself", 1, () -> x.step(0, 1, 2, 2));
        had(x, 0, Bytes.of(1, 1, 3, 3, 1, 2));
        had(x, 0, Bytes.move(1, 4, 4, new int[] {103, 8}));
        had(x, 0, Bytes.move(1, 5, 5, new int[] {101, 8}, new int[] {104, 16}));
        had(x, 0, Bytes.move(1, 6, 6, new int[] {104, 16}, new int[] {101, 8}));
        CHECK.due("all are had", 6, () -> x.page(0, 11));
        CHECK.due("one mark", 1, () -> x.page(0, 0));
        CHECK.due("it shows", 1, () -> x.page(0, 1));
        CHECK.due("under its own key", 400, () -> x.text(0, 0, 10));
        CHECK.due("their ages count", 6, () -> x.page(0, 4));
        CHECK.due("the strike tells its mark", 102, () -> x.step(0, 1, 3, 3));
        for (int number = 3; number <= 6; number++) {
            int n = number;
            CHECK.due("it holds, as no undo is of it: step " + n, 1, () -> x.step(0, 1, n, 2));
        }
        CHECK.due("they go on to others", 1, () -> x.send(0, 1, 1, 6));
        CHECK.due("they are lacked", 6, () -> x.lacks(1, 0, PenPage.NONE));
        had(x, 0, Bytes.of(1, 1, 7, 7, 1, 3));
        had(x, 0, Bytes.of(1, 1, 8, 8, 1, 4));
        CHECK.due("strikes of a strike and of a move", 1, () -> x.page(0, 1));
        CHECK.due("none gone", 0, () -> x.page(0, 3));
    }

    private static void faultPlaces() {
        CHECK.sentence("The place of the latest hear()'s FAULT; NONE without");
        PenPage x = new PenPage();
        CHECK.due("none heard", PenPage.NONE, x::fault);
        CHECK.due("a fault", 12, () -> Bytes.hear(x, 0, Bytes.set(1, 1, 1, 31, 400)));
        CHECK.due("its place", 10, x::fault);
        CHECK.due("asked again", 10, x::fault);
        x.set(0, 0, 97);
        x.send(0, 1, 0, 1);
        x.feed(0, 0, 0, 0, 0);
        x.image();
        x.restore();
        CHECK.due("stays behind other calls", 10, x::fault);
        CHECK.due("the next", 11, () -> x.hear(0, 2));
        CHECK.due("in its place", 2, x::fault);
        had(x, 0, Bytes.set(1, 1, 1, 97, 400));
        CHECK.due("2: none", PenPage.NONE, x::fault);
        Bytes.hear(x, 0, 4);
        CHECK.due("a fault at 0 is not none", 0, x::fault);
        CHECK.due("nothing new", 0, () -> Bytes.hear(x, 0, Bytes.set(1, 1, 1, 97, 400)));
        CHECK.due("0: none", PenPage.NONE, x::fault);
        Bytes.hear(x, 0, 4);
        held(x, 0, Bytes.set(1, 3, 1, 97, 400));
        CHECK.due("1: none", PenPage.NONE, x::fault);
    }

    private static void sending() {
        CHECK.sentence("0, 1 or 2 (NONE, STATUS 1: it would HOLD 21, or has another such)");
        PenPage x = new PenPage();
        for (int n = 1; n <= 23; n++) {
            x.set(0, 0, 97);
        }
        for (int n = 2; n <= 21; n++) {
            int number = n;
            CHECK.due("held " + n, 1, () -> x.send(0, 1, 0, number));
        }
        CHECK.due("held already", 0, () -> x.send(0, 1, 0, 21));
        CHECK.due("21 held", PenPage.NONE, () -> x.send(0, 1, 0, 22));
        CHECK.due("counted", 1, () -> x.count(3));
        CHECK.due("no fault of hear", PenPage.NONE, x::fault);
        CHECK.due("had", 2, () -> x.send(0, 1, 0, 1));
        CHECK.due("had already", 0, () -> x.send(0, 1, 0, 1));
        CHECK.due("now it can be", 2, () -> x.send(0, 1, 0, 22));
        PenPage y = new PenPage();
        y.set(0, 0, 97);
        y.set(0, 0, 97);
        had(y, 1, Bytes.set(0, 1, 1, 98, 400));
        CHECK.due("has another", PenPage.NONE, () -> y.send(0, 1, 0, 1));
        held(y, 1, Bytes.set(0, 3, 1, 98, 400));
        y.set(0, 0, 97);
        CHECK.due("holds another", PenPage.NONE, () -> y.send(0, 1, 0, 3));
        CHECK.due("each counted", 2, () -> y.count(3));
        CHECK.due("it leans on a number, not on which", 2, () -> y.send(0, 1, 0, 2));
        CHECK.due("the held one with it", 3, () -> y.page(1, 10));

        CHECK.sentence("NoSuchElementException: also the other one hasn't");
        int[][] none = {{0, 1, 0, 0}, {0, 1, 0, 24}, {0, 1, 0, -1}, {0, 1, 0, 61}, {0, 1, 1, 1}, {0, 1, 2, 1}, {0, 1, -1, 1}, {0, 1, 5, 1},
            {0, 1, LEAST, 1}, {0, 1, MOST, 1}, {0, 1, 0, LEAST}, {0, 1, 0, MOST}, {2, 1, 0, 1}, {-1, 1, 0, 1}, {0, 2, 0, 1}, {0, -1, 0, 1}};
        for (int[] s : none) {
            CHECK.due("send " + Arrays.toString(s), Check.NO_SUCH, () -> x.send(s[0], s[1], s[2], s[3]));
        }
        CHECK.due("not counted", 1, () -> x.count(3));
    }

    private static void lacking() {
        CHECK.sentence("LACKS of a PAGE by another one: STEPS (had, not HELD) that the other one has and it hasn't (or has otherwise)");
        PenPage x = three();
        x.set(0, 0, 97);
        x.set(0, 0, 97);
        x.set(2, 0, 97);
        x.send(2, 0, 2, 1);
        x.send(0, 1, 0, 2);
        CHECK.due("what it holds it lacks", 3, () -> x.lacks(1, 0, PenPage.NONE));
        int[] due = {1, 2, 201};
        for (int i = 0; i < 3; i++) {
            int at = i;
            CHECK.due("by writer, then number: " + i, due[i], () -> x.lacks(1, 0, at));
        }
        for (int i : new int[] {-2, 3, LEAST, MOST}) {
            CHECK.due("there is no " + i, Check.NO_SUCH, () -> x.lacks(1, 0, i));
        }
        CHECK.due("what only the other holds isn't lacked", 1, () -> x.lacks(1, 2, PenPage.NONE));
        CHECK.due("none", 0, () -> x.lacks(0, 1, PenPage.NONE));
        CHECK.due("so there is no first", Check.NO_SUCH, () -> x.lacks(0, 1, 0));
        CHECK.due("of itself", 0, () -> x.lacks(0, 0, PenPage.NONE));

        CHECK.sentence("The FEWEST PACKETS by which two are alike: all LACKS of both");
        CHECK.due("one way", 3, () -> x.fewest(0, 1));
        CHECK.due("the other way around", 3, () -> x.fewest(1, 0));
        CHECK.due("both ways", 2, () -> x.fewest(0, 2));
        had(x, 1, Bytes.set(0, 1, 1, 98, 400));
        CHECK.due("otherwise, on both sides", 3, () -> x.fewest(0, 1));
        CHECK.due("the held one came in", 2, () -> x.page(1, 10));
        CHECK.due("of itself", 0, () -> x.fewest(2, 2));

        CHECK.sentence("ALIKE are two of the same STEPS");
        PenPage y = new PenPage();
        CHECK.due("two empty ones", 1, () -> y.alike(0, 1) ? 1 : 0);
        y.set(0, 0, 97);
        CHECK.due("one more", 0, () -> y.alike(0, 1) ? 1 : 0);
        CHECK.due("one less", 0, () -> y.alike(1, 0) ? 1 : 0);
        y.send(0, 1, 0, 1);
        CHECK.due("the same", 1, () -> y.alike(0, 1) ? 1 : 0);
        held(y, 0, Bytes.set(1, 2, 1, 97, 400));
        CHECK.due("held ones make no difference", 1, () -> y.alike(1, 0) ? 1 : 0);
        PenPage z = new PenPage();
        z.set(0, 0, 97);
        had(z, 1, Bytes.set(0, 1, 2, 97, 400));
        CHECK.due("unlike by the age alone", 0, () -> z.alike(0, 1) ? 1 : 0);
    }
}
