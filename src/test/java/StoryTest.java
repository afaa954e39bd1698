/** Promises 21 to 26: say, act, clear, story, image, restore. */
public final class StoryTest {
    private static final Check CHECK = new Check();

    public static void main(String[] args) {
        says();
        acts();
        clears();
        orders();
        mostActs();
        eightActs();
        storyRefused();
        images();
        imageKeepsOnly();
        imageAgain();
        CHECK.finish();
    }

    private static void tell(PenPage x, String text) {
        for (char sign : text.toCharArray()) {
            x.say(sign);
        }
    }

    private static void says() {
        PenPage x = new PenPage();
        for (int sign : new int[] {31, 127, -1, 0, Integer.MIN_VALUE, Integer.MAX_VALUE}) {
            CHECK.due("21: say " + sign, PenPage.NONE, () -> x.say(sign));
        }
        for (int n = 1; n <= 12; n++) {
            int many = n;
            CHECK.due("21: say " + n, n, () -> x.say(many % 2 == 0 ? 32 : 126));
        }
        CHECK.due("21: there are 12", PenPage.NONE, () -> x.say(97));
        CHECK.due("21: counted", 7, () -> x.count(4));
        CHECK.due("21: signs", 12, () -> x.count(6));
        CHECK.due("24: no order makes it", 0, () -> x.story(0));
    }

    private static void acts() {
        PenPage x = new PenPage();
        int[][] wrong = {{-1, 0, 97}, {3, 0, 97}, {0, -1, 97}, {0, 8, 97}, {0, 0, 31}, {0, 0, 127}, {0, 0, -2}, {0, 8, -1},
            {3, 0, -1}, {0, Integer.MAX_VALUE, 97}, {Integer.MIN_VALUE, 0, 97}};
        for (int[] a : wrong) {
            CHECK.due("22: act " + a[0] + ", " + a[1] + ", " + a[2], PenPage.NONE, () -> x.act(a[0], a[1], a[2]));
        }
        for (int n = 1; n <= 8; n++) {
            int many = n;
            CHECK.due("22: act " + n, n, () -> x.act(many % 3, many - 1, many % 2 == 0 ? -1 : 97));
        }
        CHECK.due("22: there are 8", PenPage.NONE, () -> x.act(0, 0, 97));
        CHECK.due("22: counted", wrong.length + 1, () -> x.count(4));
        CHECK.due("22: acts", 8, () -> x.count(5));
    }

    private static void clears() {
        PenPage x = new PenPage();
        tell(x, "a");
        x.act(0, 0, 97);
        x.act(9, 9, 9);
        CHECK.due("24: one order", 1, () -> x.story(0));
        x.clear();
        CHECK.due("23: no acts", 0, () -> x.count(5));
        CHECK.due("23: no signs", 0, () -> x.count(6));
        CHECK.due("23: STATUS stays", 1, () -> x.count(4));
        CHECK.due("24: the empty order makes the empty text", 1, () -> x.story(0));
        CHECK.due("24: no acts", 0, () -> x.story(1));
        CHECK.due("24: it has no pens", Check.NO_SUCH, () -> x.story(10));
        x.say(97);
        CHECK.due("24: but not a told one", 0, () -> x.story(0));
    }

    private static void first(String what, PenPage x, int... pens) {
        for (int i = 0; i < pens.length; i++) {
            int at = i;
            CHECK.due(what + ": pen " + i, pens[i], () -> x.story(10 + at));
        }
        CHECK.due(what + ": no more", Check.NO_SUCH, () -> x.story(10 + pens.length));
    }

    private static void orders() {
        PenPage x = new PenPage();
        tell(x, "ba");
        x.act(2, 0, 'a');
        x.act(0, 0, 'b');
        CHECK.due("24: one of two", 1, () -> x.story(0));
        first("24: a, then b ahead of it", x, 2, 0);
        x.act(1, 1, 'c');
        x.act(1, 1, -1);
        CHECK.due("24: a c set and struck at once", 2, () -> x.story(0));
        first("24: the first as a row of pens", x, 2, 0, 1, 1);
        CHECK.due("24: all four can be done", 4, () -> x.story(1));
        x.say('c');
        CHECK.due("24: another text, asked anew", 0, () -> x.story(0));
        CHECK.due("24: no first order", Check.NO_SUCH, () -> x.story(10));
        x.act(0, 2, 'c');
        CHECK.due("24: an act more, asked anew", 5, () -> x.story(1));

        PenPage y = new PenPage();
        tell(y, "ab");
        y.act(1, 0, 'b');
        y.act(1, 0, 'a');
        CHECK.due("24: each pen in its order", 1, () -> y.story(0));
        first("24: one pen", y, 1, 1);

        PenPage z = new PenPage();
        z.act(1, 0, -1);
        z.act(0, 0, 'a');
        CHECK.due("24: the strike's place must be there then", 1, () -> z.story(0));
        first("24: set, then strike", z, 0, 1);
    }

    private static void mostActs() {
        PenPage x = new PenPage();
        x.act(0, 0, 'a');
        x.act(0, 3, 'b');
        x.act(0, 0, 'c');
        x.act(1, 1, 'd');
        CHECK.due("24: no order of all", 0, () -> x.story(0));
        CHECK.due("24: 0, 1 and then 3 isn't there", 2, () -> x.story(1));
        x.act(2, 0, 'e');
        CHECK.due("24: with one more all can be done", 5, () -> x.story(1));
        CHECK.due("24: though none makes the empty text", 0, () -> x.story(0));

        PenPage y = new PenPage();
        y.act(0, 7, -1);
        CHECK.due("24: none can be done", 0, () -> y.story(1));
        y.act(1, 0, 97);
        CHECK.due("24: one", 1, () -> y.story(1));
    }

    private static void eightActs() {
        PenPage x = new PenPage();
        int[] pens = {0, 1, 2, 0, 1, 2, 0, 1};
        for (int pen : pens) {
            x.act(pen, 0, 97);
        }
        tell(x, "aaaaaaaa");
        CHECK.due("24: every order of 3, 3 and 2", 560, () -> x.story(0));
        CHECK.due("24: all eight", 8, () -> x.story(1));
        first("24: the first of them", x, 0, 0, 0, 1, 1, 1, 2, 2);
        tell(x, "a");
        CHECK.due("24: nine signs", 0, () -> x.story(0));
    }

    private static void storyRefused() {
        PenPage x = new PenPage();
        x.act(0, 0, 97);
        tell(x, "a");
        for (int what : new int[] {-1, 2, 9, 11, Integer.MIN_VALUE, Integer.MAX_VALUE}) {
            CHECK.due("24: story " + what, Check.NO_SUCH, () -> x.story(what));
        }
        CHECK.due("24: story 10", 0, () -> x.story(10));
    }

    private static void images() {
        PenPage x = new PenPage();
        CHECK.due("26: no image", 0, () -> x.restore() ? 1 : 0);
        x.set(0, 0, 97);
        x.set(0, 1, 98);
        x.send(0, 1, 0, 2);
        x.strike(1, 0);
        x.say(1);
        x.feed(0, 0, 0, 0, 0);
        x.hear(0, 0);
        x.image();
        x.send(0, 1, 0, 1);
        x.strike(0, 0);
        x.strike(1, 9);
        x.say(1);
        x.hear(0, 0);
        CHECK.due("26: restored", 1, () -> x.restore() ? 1 : 0);
        CHECK.due("26: steps", 2, () -> x.page(0, 10));
        CHECK.due("26: text", 2, () -> x.page(0, 1));
        CHECK.due("26: age", 2, () -> x.page(0, 4));
        CHECK.due("26: not heard", 0, () -> x.page(1, 10));
        CHECK.due("26: held", 1, () -> x.page(1, 2));
        CHECK.due("26: age of page 1", 0, () -> x.page(1, 4));
        CHECK.due("26: STATUS 0", 1, () -> x.count(2));
        CHECK.due("26: STATUS 1", 1, () -> x.count(3));
        CHECK.due("26: STATUS 2", 1, () -> x.count(4));
        CHECK.due("26: the held one comes in still", 2, () -> x.send(0, 1, 0, 1));
        CHECK.due("26: both are there", 2, () -> x.page(1, 10));
        CHECK.due("26: the image is kept", 1, () -> x.restore() ? 1 : 0);
        CHECK.due("26: as it was", 1, () -> x.page(1, 2));
    }

    private static void imageKeepsOnly() {
        PenPage x = new PenPage();
        x.image();
        tell(x, "a");
        x.act(0, 0, 97);
        x.hear(1, 0);
        x.feed(1, 2, 3, 4, 5);
        x.restore();
        CHECK.due("26: the story is as it is now", 1, () -> x.count(6));
        CHECK.due("26: its acts too", 1, () -> x.count(5));
        CHECK.due("26: the tape too", 20, () -> x.count(1));
        CHECK.due("26: and the fault", 0, x::fault);
        CHECK.due("26: STATUS is the image's", 0, () -> x.count(3));
    }

    private static void imageAgain() {
        PenPage x = new PenPage();
        x.set(0, 0, 97);
        x.image();
        x.set(0, 0, 97);
        x.image();
        x.set(0, 0, 97);
        x.restore();
        CHECK.due("25: in place of another one", 2, () -> x.page(0, 10));
        x.writers(3);
        CHECK.due("2: the image is gone", 0, () -> x.restore() ? 1 : 0);
        CHECK.dueDeed("2: refused", Check.ILLEGAL, () -> {
            x.image();
            x.writers(6);
        });
        CHECK.due("2: so the image stays", 1, () -> x.restore() ? 1 : 0);
    }
}
