/** Makes packets by hand and brings them to an object's tape. */
final class Bytes {
    private Bytes() {
    }

    /** The bytes with the one that closes a packet behind them. */
    static int[] seal(int... bytes) {
        int[] sealed = java.util.Arrays.copyOf(bytes, bytes.length + 1);
        sealed[bytes.length] = java.util.Arrays.stream(bytes).sum() % 256;
        return sealed;
    }

    /** A SET by a writer who has seen nothing but his own steps. */
    static int[] set(int writer, int number, int age, int sign, int... key) {
        int[] bytes = new int[12 + 2 * key.length];
        head(bytes, 0, writer, number, age);
        bytes[10] = sign;
        bytes[11] = key.length;
        for (int k = 0; k < key.length; k++) {
            bytes[12 + 2 * k] = key[k] / 256;
            bytes[13 + 2 * k] = key[k] % 256;
        }
        return seal(bytes);
    }

    /** Any kind's packet with a body of its own, by a writer who has seen nothing but his own steps. */
    static int[] of(int kind, int writer, int number, int age, int... body) {
        int[] bytes = new int[10 + body.length];
        head(bytes, kind, writer, number, age);
        System.arraycopy(body, 0, bytes, 10, body.length);
        return seal(bytes);
    }

    private static void head(int[] bytes, int kind, int writer, int number, int age) {
        bytes[0] = kind;
        bytes[1] = writer;
        bytes[2] = number;
        bytes[3 + writer] = number - 1;
        bytes[8] = age / 256;
        bytes[9] = age % 256;
    }

    /** A MOVE; of each mark its number and behind it the numbers of its key. */
    static int[] move(int writer, int number, int age, int[]... marksAndKeys) {
        int[] body = new int[400];
        int length = 0;
        body[length++] = marksAndKeys.length;
        for (int[] moved : marksAndKeys) {
            body[length++] = moved[0] / 100;
            body[length++] = moved[0] % 100;
            body[length++] = moved.length - 1;
            for (int k = 1; k < moved.length; k++) {
                body[length++] = moved[k] / 256;
                body[length++] = moved[k] % 256;
            }
        }
        return of(3, writer, number, age, java.util.Arrays.copyOf(body, length));
    }

    /** The packet of a writer who has seen so many steps of another one. */
    static int[] seeing(int[] packet, int other, int steps) {
        return with(packet, 3 + other, steps);
    }

    /** The packet with one byte put otherwise, closed rightly again. */
    static int[] with(int[] packet, int place, int value) {
        int[] bytes = java.util.Arrays.copyOf(packet, packet.length - 1);
        bytes[place] = value;
        return seal(bytes);
    }

    static int[] read(PenPage x, int page, int writer, int number) {
        int[] bytes = new int[x.packet(page, writer, number, PenPage.NONE)];
        for (int i = 0; i < bytes.length; i++) {
            bytes[i] = x.packet(page, writer, number, i);
        }
        return bytes;
    }

    /** The five numbers that feed() takes for the twenty bytes from a place on, 0 behind the end. */
    static int[] numbers(int[] bytes, int from) {
        int[] numbers = new int[5];
        for (int i = 0; i < 20; i++) {
            int value = from + i < bytes.length ? bytes[from + i] : 0;
            numbers[i / 4] = numbers[i / 4] << 8 | value;
        }
        return numbers;
    }

    static void feed(PenPage x, int[] bytes) {
        for (int from = 0; from < bytes.length; from += 20) {
            int[] n = numbers(bytes, from);
            x.feed(n[0], n[1], n[2], n[3], n[4]);
        }
    }

    static int hear(PenPage x, int page, int... packet) {
        feed(x, packet);
        return x.hear(page, packet.length);
    }
}
