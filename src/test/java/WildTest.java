import java.util.NoSuchElementException;
import java.util.Random;

/**
 * Any call in any state ends with an answer or with the exception that the document names for it: long runs of calls
 * with wild arguments, far beyond the 512 that an object is used for.
 */
public final class WildTest {
    private static final int RUNS = 60;
    private static final int CALLS = 4000;
    private static final int CALL_KINDS = 25;
    private static final int[] WILD = {Integer.MIN_VALUE, Integer.MIN_VALUE + 1, -65536, -257, -256, -100, -2, -1, 60, 61, 100, 101,
        160, 255, 256, 257, 399, 400, 401, 460, 500, 65535, 65536, Integer.MAX_VALUE - 1, Integer.MAX_VALUE};

    private final Random random;
    private final PenPage x = new PenPage();
    private int[] packet = new int[0];

    private WildTest(int run) {
        random = new Random(104729L * run + 3);
    }

    public static void main(String[] args) {
        boolean wrong = false;
        for (int run = 0; run < RUNS; run++) {
            WildTest test = new WildTest(run);
            for (int call = 0; call < CALLS && !wrong; call++) {
                int kind = test.random.nextInt(CALL_KINDS + 10);
                String thrown = test.thrownBy(kind);
                wrong = !thrown.isEmpty();
                if (wrong) {
                    System.out.println("run " + run + ", call " + call + " of kind " + kind + " throws." + thrown);
                }
            }
        }
        if (wrong) {
            System.exit(1);
        }
    }

    /** The name of what a call throws though the document doesn't name it there; empty without. */
    private String thrownBy(int kind) {
        try {
            call(kind);
            return "";
        } catch (NoSuchElementException e) {
            return namesNoSuchElement(kind) ? "" : e.toString();
        } catch (IllegalArgumentException e) {
            return kind == 0 || kind == 12 ? "" : e.toString();
        } catch (RuntimeException e) {
            return e.toString();
        }
    }

    private static boolean namesNoSuchElement(int kind) {
        return switch (kind) {
            case 0, 11, 13, 20, 21, 22, 24, 25 -> false;
            default -> true;
        };
    }

    /** Mostly a small number, so that calls get somewhere; at times a wild one. */
    private int some() {
        int kind = random.nextInt(12);
        if (kind == 0) {
            return WILD[random.nextInt(WILD.length)];
        }
        return kind == 1 ? random.nextInt() : random.nextInt(kind < 9 ? 3 : 70);
    }

    private int someSign() {
        return random.nextInt(8) == 0 ? some() : 30 + random.nextInt(98);
    }

    private void call(int kind) {
        switch (kind) {
            case 0 -> rarely(() -> x.writers(some()), 30);
            case 1 -> x.count(some());
            case 2 -> x.page(some(), some());
            case 3 -> x.text(some(), some(), some());
            case 4 -> x.step(some(), some(), some(), some());
            case 5 -> x.set(some(), some(), someSign());
            case 6 -> x.strike(some(), some());
            case 7 -> x.undo(some(), some());
            case 8 -> x.move(some(), some(), some(), some());
            case 9 -> x.packet(some(), some(), some(), some());
            case 10 -> packet = Bytes.read(x, some(), some(), some());
            case 11 -> x.feed(random.nextInt(), some(), some(), some(), random.nextInt());
            case 12 -> x.hear(some(), some());
            case 13 -> x.fault();
            case 14 -> x.send(some(), some(), some(), some());
            case 15 -> x.lacks(some(), some(), some());
            case 16 -> x.fewest(some(), some());
            case 17 -> x.alike(some(), some());
            case 18 -> x.whose(some(), some());
            case 19 -> x.gone(some(), some());
            case 20 -> x.say(someSign());
            case 21 -> x.act(some(), some(), random.nextInt(3) == 0 ? -1 : someSign());
            case 22 -> rarely(x::clear, 10);
            case 23 -> x.story(some());
            case 24 -> x.image();
            case 25 -> rarely(x::restore, 20);
            default -> hearChanged();
        }
    }

    private void rarely(Check.Deed deed, int of) {
        if (random.nextInt(of) == 0) {
            deed.run();
        }
    }

    /** A packet that was read before, as it was or with some bytes put otherwise and closed rightly. */
    private void hearChanged() {
        if (packet.length < 2) {
            return;
        }
        int[] changed = packet.clone();
        for (int times = random.nextInt(3); times > 0; times--) {
            changed = Bytes.with(changed, random.nextInt(changed.length - 1), random.nextInt(256));
        }
        Bytes.hear(x, random.nextInt(2), changed);
    }
}
