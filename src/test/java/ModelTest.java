import java.util.Random;

/** Random runs of calls, the same ones on the class and on the Model; every answer must be the same. */
public final class ModelTest {
    private static final int RUNS = 120;
    private static final int CALLS = 512;

    private final Random random;
    private final int run;
    private final PenPage x = new PenPage();
    private final Model m = new Model();
    private final StringBuilder told = new StringBuilder();
    private int calls = 0;
    private boolean wrong = false;

    private ModelTest(int run) {
        this.run = run;
        this.random = new Random(7919L * run + 1);
    }

    public static void main(String[] args) {
        for (int run = 0; run < RUNS; run++) {
            ModelTest test = new ModelTest(run);
            if (!test.goesRight()) {
                System.out.println(test.told);
                System.exit(1);
            }
        }
    }

    private boolean goesRight() {
        int writers = 1 + random.nextInt(5);
        if (random.nextInt(4) != 0) {
            same("writers(" + writers + ")", () -> deed(() -> x.writers(writers)), () -> deed(() -> m.writers(writers)));
        }
        while (calls < CALLS && !wrong) {
            int kind = random.nextInt(100);
            if (kind < 40) {
                act();
            } else if (kind < 62) {
                news();
            } else if (kind < 92) {
                ask();
            } else {
                other();
            }
        }
        return !wrong;
    }

    private static long deed(Check.Deed deed) {
        deed.run();
        return 0;
    }

    private long same(String call, Check.Call mine, Check.Call due) {
        calls++;
        long want = Check.answerOf(due);
        long got = Check.answerOf(mine);
        told.append("run ").append(run).append(": ").append(call).append(" -> ").append(Check.tell(got)).append('\n');
        if (got != want) {
            told.append("due is ").append(Check.tell(want)).append('\n');
            wrong = true;
        }
        return got;
    }

    /** Mostly a number from 0 to below a bound, at times one that lies outside, just so or far. */
    private int some(int below) {
        switch (random.nextInt(160)) {
            case 0, 1:
                return -1;
            case 2, 3:
                return below;
            case 4:
                return Integer.MIN_VALUE + random.nextInt(2);
            case 5:
                return Integer.MAX_VALUE - random.nextInt(2);
            default:
                break;
        }
        return below <= 0 ? 0 : random.nextInt(below);
    }

    private int somePage() {
        return some(m.count(0));
    }

    private int lengthOf(int page) {
        return page >= 0 && page < m.count(0) ? m.page(page, 1) : 0;
    }

    private int stepsOf(int page, int writer) {
        boolean there = page >= 0 && page < m.count(0) && writer >= 0 && writer < m.count(0);
        return there ? m.page(page, 10 + writer) : 0;
    }

    private void act() {
        int p = somePage();
        int length = lengthOf(p);
        switch (random.nextInt(8)) {
            case 0, 1, 2, 3 -> {
                int place = random.nextInt(3) == 0 ? Math.min(length, 1) : some(length + 1);
                int sign = 32 + some(95);
                same("set(" + p + ", " + place + ", " + sign + ")", () -> x.set(p, place, sign), () -> m.set(p, place, sign));
            }
            case 4 -> {
                int place = random.nextBoolean() ? some(Math.min(length, 2)) : some(length);
                same("strike(" + p + ", " + place + ")", () -> x.strike(p, place), () -> m.strike(p, place));
            }
            case 5 -> {
                int number = 1 + some(stepsOf(p, p));
                same("undo(" + p + ", " + number + ")", () -> x.undo(p, number), () -> m.undo(p, number));
            }
            default -> {
                int from = some(length);
                int to = from + some(Math.max(1, Math.min(7, length - from)));
                int at = some(length + 1);
                same("move(" + p + ", " + from + ", " + to + ", " + at + ")", () -> x.move(p, from, to, at),
                        () -> m.move(p, from, to, at));
            }
        }
    }

    private void news() {
        int from = somePage();
        int to = somePage();
        switch (random.nextInt(6)) {
            case 0, 1 -> {
                int writer = somePage();
                int number = 1 + some(stepsOf(from, writer));
                sendOne(from, to, writer, number);
            }
            case 2, 3 -> sendLacks(from, to);
            default -> hearOne(from, to);
        }
    }

    private void sendOne(int from, int to, int writer, int number) {
        same("send(" + from + ", " + to + ", " + writer + ", " + number + ")", () -> x.send(from, to, writer, number),
                () -> m.send(from, to, writer, number));
    }

    /** Some of what a page lacks, from one end or the other, so that packets are held. */
    private void sendLacks(int from, int to) {
        for (int i = 0; i < 4 && calls < CALLS && !wrong; i++) {
            long many = same("lacks(" + to + ", " + from + ", -1)", () -> x.lacks(to, from, -1), () -> m.lacks(to, from, -1));
            if (many <= 0) {
                return;
            }
            int which = random.nextInt(3) == 0 ? random.nextInt((int) many) : 0;
            long mark = same("lacks(" + to + ", " + from + ", " + which + ")", () -> x.lacks(to, from, which),
                    () -> m.lacks(to, from, which));
            sendOne(from, to, (int) mark / 100, (int) mark % 100);
        }
    }

    private void hearOne(int from, int to) {
        int[] packet = random.nextInt(5) == 0 ? madePacket() : someoneElsesPacket(from);
        for (int at = 0; at < packet.length && !wrong; at += 20) {
            int[] n = Bytes.numbers(packet, at);
            same("feed(" + n[0] + ", " + n[1] + ", " + n[2] + ", " + n[3] + ", " + n[4] + ")",
                    () -> x.feed(n[0], n[1], n[2], n[3], n[4]), () -> m.feed(n[0], n[1], n[2], n[3], n[4]));
        }
        int n = random.nextInt(25) == 0 ? packet.length - 3 + some(6) : packet.length;
        same("hear(" + to + ", " + n + ")", () -> x.hear(to, n), () -> m.hear(to, n));
        same("fault()", x::fault, m::fault);
    }

    /** A packet that a page has, at times with a byte put otherwise, closed rightly or not. */
    private int[] someoneElsesPacket(int page) {
        int writer = random.nextInt(5);
        int steps = stepsOf(page, writer);
        if (steps == 0) {
            return madePacket();
        }
        int[] packet = Bytes.read(x, page, writer, 1 + random.nextInt(steps));
        int kind = random.nextInt(4);
        int place = random.nextInt(packet.length - 1);
        int value = random.nextBoolean() ? random.nextInt(256) : Math.max(0, Math.min(255, packet[place] + random.nextInt(5) - 2));
        if (kind == 0) {
            packet[place] = value;
        } else if (kind == 1) {
            return Bytes.with(packet, place, value);
        }
        return packet;
    }

    /** A packet out of the air, mostly one that a page can take: the next of a writer, leaning on little. */
    private int[] madePacket() {
        int writer = random.nextInt(m.count(0));
        int steps = stepsOf(random.nextInt(m.count(0)), writer);
        int number = Math.min(60, steps + 1 + random.nextInt(3));
        int age = 1 + random.nextInt(random.nextInt(20) == 0 ? 65535 : 40);
        int mark = random.nextInt(number);
        int[] packet = switch (random.nextInt(4)) {
            case 0 -> Bytes.set(writer, number, age, 32 + random.nextInt(95), someKey());
            case 1 -> Bytes.of(1, writer, number, age, writer, mark);
            case 2 -> Bytes.of(2, writer, number, age, mark);
            default -> Bytes.of(3, writer, number, age, 2, writer, mark, 1, 1, 8 * random.nextInt(20), writer,
                    1 + random.nextInt(number), 2, 0, random.nextInt(9), 0, 1 + 7 * random.nextInt(5));
        };
        return packet;
    }

    private int[] someKey() {
        int[] key = new int[1 + random.nextInt(random.nextInt(6) == 0 ? 25 : 3)];
        for (int k = 0; k < key.length; k++) {
            key[k] = random.nextBoolean() ? random.nextInt(17) : random.nextInt(802);
        }
        return key;
    }

    private void ask() {
        int p = somePage();
        int q = somePage();
        switch (random.nextInt(10)) {
            case 0, 1 -> {
                int what = random.nextInt(16);
                same("page(" + p + ", " + what + ")", () -> x.page(p, what), () -> m.page(p, what));
            }
            case 2, 3, 4 -> {
                int i = some(lengthOf(p));
                int what = random.nextBoolean() ? random.nextInt(4) : 10 + random.nextInt(3);
                same("text(" + p + ", " + i + ", " + what + ")", () -> x.text(p, i, what), () -> m.text(p, i, what));
            }
            case 5 -> {
                int n = 1 + some(stepsOf(p, q));
                int what = some(4);
                same("step(" + p + ", " + q + ", " + n + ", " + what + ")", () -> x.step(p, q, n, what), () -> m.step(p, q, n, what));
            }
            case 6 -> {
                int n = 1 + some(stepsOf(p, q));
                int i = random.nextInt(20) - 1;
                same("packet(" + p + ", " + q + ", " + n + ", " + i + ")", () -> x.packet(p, q, n, i), () -> m.packet(p, q, n, i));
            }
            case 7 -> {
                same("fewest(" + p + ", " + q + ")", () -> x.fewest(p, q), () -> m.fewest(p, q));
                same("alike(" + p + ", " + q + ")", () -> x.alike(p, q) ? 1 : 0, () -> m.alike(p, q) ? 1 : 0);
            }
            case 8 -> same("whose(" + p + ", " + q + ")", () -> x.whose(p, q), () -> m.whose(p, q));
            default -> {
                int mark = 100 * q + 1 + some(stepsOf(p, q));
                same("gone(" + p + ", " + mark + ")", () -> x.gone(p, mark) ? 1 : 0, () -> m.gone(p, mark) ? 1 : 0);
            }
        }
    }

    /** Bytes of a tape are there at times, as is a fault; what stays is asked at once. */
    private void writersAnew(int n) {
        if (random.nextBoolean()) {
            same("feed(0, 1, 2, 3, 4)", () -> x.feed(0, 1, 2, 3, 4), () -> m.feed(0, 1, 2, 3, 4));
        }
        same("writers(" + n + ")", () -> deed(() -> x.writers(n)), () -> deed(() -> m.writers(n)));
        same("fault()", x::fault, m::fault);
        for (int i = 0; i < 7; i++) {
            int what = i;
            same("count(" + what + ")", () -> x.count(what), () -> m.count(what));
        }
    }

    private void other() {
        switch (random.nextInt(12)) {
            case 0 -> same("image()", () -> deed(x::image), () -> deed(m::image));
            case 1 -> {
                if (random.nextInt(3) == 0) {
                    same("restore()", () -> x.restore() ? 1 : 0, () -> m.restore() ? 1 : 0);
                }
            }
            case 2 -> {
                if (random.nextInt(25) == 0) {
                    writersAnew(random.nextInt(7));
                }
            }
            case 3 -> {
                int what = some(7);
                same("count(" + what + ")", () -> x.count(what), () -> m.count(what));
            }
            case 4, 5 -> {
                int sign = 96 + random.nextInt(2) + (random.nextInt(20) == 0 ? 60 : 0);
                same("say(" + sign + ")", () -> x.say(sign), () -> m.say(sign));
            }
            case 6, 7, 8 -> {
                int pen = some(3);
                int place = random.nextInt(6) == 0 ? some(8) : random.nextInt(3);
                int sign = random.nextInt(3) == 0 ? -1 : 96 + random.nextInt(2);
                same("act(" + pen + ", " + place + ", " + sign + ")", () -> x.act(pen, place, sign), () -> m.act(pen, place, sign));
            }
            case 9 -> {
                if (random.nextInt(2) == 0) {
                    same("clear()", () -> deed(x::clear), () -> deed(m::clear));
                }
            }
            default -> {
                int what = random.nextInt(3) == 0 ? 10 + random.nextInt(9) : random.nextInt(3);
                same("story(" + what + ")", () -> x.story(what), () -> m.story(what));
            }
        }
    }
}
