/** Each edge that "==== 5" and promises 21 to 26 name: the STORY and its ORDERS, STATUS, AN IMAGE. */
public final class StoryEdgesTest {
    private static final Check CHECK = new Check();
    private static final int LEAST = Integer.MIN_VALUE;
    private static final int MOST = Integer.MAX_VALUE;
    private static final int STRIKE = PenPage.NONE;

    public static void main(String[] args) {
        atMostTwelveSigns();
        atMostEightActs();
        penActs();
        eachInItsOrder();
        allActs();
        setPlaceMustBeThere();
        strikePlaceMustBeThere();
        placeSeven();
        textAtLast();
        textOfEight();
        howMany();
        firstAsARowOfPens();
        mostActs();
        askedAnew();
        storyRefused();
        clears();
        statusOfStories();
        noImage();
        imageKeepsPages();
        imageKeepsHeld();
        imageKeepsStatus();
        imageKeepsNoMore();
        imageInPlaceOfAnother();
        imageOfFirstAndLast();
        CHECK.finish();
    }

    private static PenPage told(String text) {
        PenPage x = new PenPage();
        for (char sign : text.toCharArray()) {
            x.say(sign);
        }
        return x;
    }

    private static void acts(PenPage x, int[]... acts) {
        for (int[] a : acts) {
            x.act(a[0], a[1], a[2]);
        }
    }

    private static int[] act(int pen, int place, int sign) {
        return new int[] {pen, place, sign};
    }

    private static void first(String what, PenPage x, int... pens) {
        for (int i = 0; i < pens.length; i++) {
            int at = i;
            CHECK.due(what + ": pen " + i, pens[i], () -> x.story(10 + at));
        }
        CHECK.due(what + ": no more", Check.NO_SUCH, () -> x.story(10 + pens.length));
    }

    private static void restored(PenPage x) {
        CHECK.due("restored", 1, () -> x.restore() ? 1 : 0);
    }

    private static void atMostTwelveSigns() {
        CHECK.sentence("A SIGN more of the STORY's text: how many. NONE (STATUS 2): there are 12, not as told");
        PenPage x = new PenPage();
        int[] wrong = {31, 127, 0, -1, LEAST, MOST, 256 + 97, 97 - 256};
        for (int sign : wrong) {
            CHECK.due("sign " + sign, PenPage.NONE, () -> x.say(sign));
        }
        CHECK.due("none came", 0, () -> x.count(6));
        for (int n = 1; n <= 12; n++) {
            int sign = n % 2 == 0 ? 32 : 126;
            CHECK.due("sign " + n, n, () -> x.say(sign));
        }
        CHECK.due("a 13th", PenPage.NONE, () -> x.say(97));
        CHECK.due("a 13th that can't be", PenPage.NONE, () -> x.say(31));
        CHECK.due("twelve", 12, () -> x.count(6));
        CHECK.due("each counted", wrong.length + 2, () -> x.count(4));
    }

    private static void atMostEightActs() {
        CHECK.sentence("NONE (STATUS 2): there are 8, not as told");
        for (int pens = 1; pens <= 3; pens++) {
            PenPage x = new PenPage();
            for (int n = 1; n <= 8; n++) {
                int pen = n % pens;
                int sign = n % 2 == 0 ? STRIKE : 97;
                CHECK.due("act " + n + " of " + pens + " pens", n, () -> x.act(pen, 0, sign));
            }
            for (int pen = 0; pen <= 2; pen++) {
                int ninth = pen;
                CHECK.due("a 9th set of pen " + pen, PenPage.NONE, () -> x.act(ninth, 0, 97));
                CHECK.due("a 9th strike of pen " + pen, PenPage.NONE, () -> x.act(ninth, 0, STRIKE));
            }
            CHECK.due("eight", 8, () -> x.count(5));
            CHECK.due("each counted", 6, () -> x.count(4));
            CHECK.due("the acts are as told", 8, () -> x.story(1));
        }
    }

    private static void penActs() {
        CHECK.sentence("An act more of a PEN: SET a SIGN at a place (0 to 7), or STRIKE there (sign NONE): how many");
        PenPage x = new PenPage();
        int[][] wrong = {{-1, 0, 97}, {3, 0, 97}, {LEAST, 0, 97}, {MOST, 0, 97}, {0, -1, 97}, {0, 8, 97}, {0, LEAST, 97}, {0, MOST, 97},
            {0, 0, 31}, {0, 0, 127}, {0, 0, 0}, {0, 0, -2}, {0, 0, LEAST}, {0, 0, MOST}, {-1, 0, -1}, {3, 0, -1}, {0, -1, -1}, {0, 8, -1}};
        for (int[] w : wrong) {
            CHECK.due("act " + w[0] + ", " + w[1] + ", " + w[2], PenPage.NONE, () -> x.act(w[0], w[1], w[2]));
        }
        CHECK.due("none came", 0, () -> x.count(5));
        CHECK.due("each counted", wrong.length, () -> x.count(4));
        int[][] can = {{0, 0, 32}, {2, 0, 126}, {0, 7, 97}, {2, 7, 97}, {0, 0, -1}, {2, 7, -1}, {1, 3, 97}, {1, 4, -1}};
        for (int i = 0; i < can.length; i++) {
            int[] c = can[i];
            CHECK.due("act " + c[0] + ", " + c[1] + ", " + c[2], i + 1, () -> x.act(c[0], c[1], c[2]));
        }
    }

    private static void eachInItsOrder() {
        CHECK.sentence("by PENS 0 to 2, each in its order");
        PenPage x = told("ab");
        acts(x, act(1, 0, 'a'), act(1, 1, 'b'));
        CHECK.due("a, then b", 1, () -> x.story(0));
        PenPage y = told("ba");
        acts(y, act(1, 0, 'a'), act(1, 1, 'b'));
        CHECK.due("not b, then a", 0, () -> y.story(0));
        PenPage z = told("cab");
        acts(z, act(2, 0, 'a'), act(0, 0, 'c'), act(2, 1, 'b'));
        CHECK.due("another pen's may come between, if the places fit", 1, () -> z.story(0));
        first("its order", z, 2, 2, 0);
    }

    private static void allActs() {
        CHECK.sentence("An ORDER of all acts");
        PenPage x = told("a");
        acts(x, act(0, 0, 'a'), act(1, 0, 'b'));
        CHECK.due("one of two would do, but all are to be done", 0, () -> x.story(0));
        PenPage y = told("a");
        acts(y, act(0, 0, 'a'), act(1, 5, 'b'));
        CHECK.due("one that can't be done is one of all", 0, () -> y.story(0));
    }

    private static void setPlaceMustBeThere() {
        CHECK.sentence("(a place must be there then)");
        PenPage x = told("a");
        acts(x, act(0, 0, 'a'));
        CHECK.due("at the length 0", 1, () -> x.story(0));
        PenPage w = told("axyb");
        acts(w, act(0, 0, 'a'), act(0, 1, 'b'), act(0, 1, 'x'), act(0, 2, 'y'));
        CHECK.due("in the middle: those behind it go on", 1, () -> w.story(0));
        PenPage y = told("a");
        acts(y, act(0, 1, 'a'));
        CHECK.due("at 1 of an empty text", 0, () -> y.story(0));
        CHECK.due("none can be done", 0, () -> y.story(1));
        PenPage z = told("ab");
        acts(z, act(0, 0, 'a'), act(0, 1, 'b'));
        CHECK.due("at the length 1", 1, () -> z.story(0));
        PenPage v = told("ab");
        acts(v, act(0, 0, 'a'), act(0, 2, 'b'));
        CHECK.due("one behind it", 0, () -> v.story(0));
        CHECK.due("one can be done", 1, () -> v.story(1));
    }

    private static void strikePlaceMustBeThere() {
        CHECK.sentence("STRIKE at a place");
        PenPage x = told("");
        acts(x, act(0, 0, STRIKE));
        CHECK.due("of an empty text", 0, () -> x.story(0));
        CHECK.due("none can be done", 0, () -> x.story(1));
        PenPage y = told("a");
        acts(y, act(0, 0, 'a'), act(0, 1, 'b'), act(0, 1, STRIKE));
        CHECK.due("the last", 1, () -> y.story(0));
        PenPage z = told("ab");
        acts(z, act(0, 0, 'a'), act(0, 1, 'b'), act(0, 2, STRIKE));
        CHECK.due("one behind the last", 0, () -> z.story(0));
        CHECK.due("two can be done", 2, () -> z.story(1));
        PenPage v = told("bc");
        acts(v, act(0, 0, 'a'), act(0, 1, 'b'), act(0, 2, 'c'), act(0, 0, STRIKE));
        CHECK.due("the first: those behind it come nearer", 1, () -> v.story(0));
        PenPage u = told("ac");
        acts(u, act(0, 0, 'a'), act(0, 1, 'b'), act(0, 2, 'c'), act(0, 1, STRIKE));
        CHECK.due("one in the middle", 1, () -> u.story(0));
    }

    private static PenPage sevenAnd(String text, int place, int sign) {
        PenPage x = told(text);
        for (int i = 0; i < 7; i++) {
            x.act(0, i, 'a' + i);
        }
        x.act(0, place, sign);
        return x;
    }

    private static void placeSeven() {
        CHECK.sentence("SET a SIGN at a place (0 to 7)");
        CHECK.due("a set at 7 of seven", 1, () -> sevenAnd("abcdefgh", 7, 'h').story(0));
        CHECK.due("a set at 0 of seven", 1, () -> sevenAnd("habcdefg", 0, 'h').story(0));
        CHECK.due("a strike at 6 of seven", 1, () -> sevenAnd("abcdef", 6, STRIKE).story(0));
        CHECK.due("a strike at 0 of seven", 1, () -> sevenAnd("bcdefg", 0, STRIKE).story(0));
        CHECK.due("a strike at 7 of seven", 0, () -> sevenAnd("abcdefg", 7, STRIKE).story(0));
        CHECK.due("seven can be done", 7, () -> sevenAnd("abcdefg", 7, STRIKE).story(1));
    }

    private static void textAtLast() {
        CHECK.sentence("those by which the text at last is that");
        int[][] abc = {act(0, 0, 'a'), act(0, 1, 'b'), act(0, 2, 'c')};
        for (String text : new String[] {"", "a", "ab", "abcc", "xbc", "axc", "abx", "cba", "abcabcabcabc"}) {
            PenPage x = told(text);
            acts(x, abc);
            CHECK.due("not " + text, 0, () -> x.story(0));
            CHECK.due("all can be done", 3, () -> x.story(1));
        }
        PenPage x = told("abc");
        acts(x, abc);
        CHECK.due("abc", 1, () -> x.story(0));
        PenPage y = told("");
        acts(y, act(0, 0, 'a'), act(0, 0, STRIKE));
        CHECK.due("an empty one at last", 1, () -> y.story(0));
        PenPage z = told("a");
        acts(z, act(0, 0, 'a'), act(0, 0, STRIKE));
        CHECK.due("not one on the way", 0, () -> z.story(0));
    }

    private static void textOfEight() {
        CHECK.sentence("TEXT told (at most 12 SIGNS), and rows of at most 8 acts together");
        for (int signs = 7; signs <= 12; signs++) {
            PenPage x = told("aaaaaaaaaaaa".substring(0, signs));
            for (int i = 0; i < 8; i++) {
                x.act(i % 3, 0, 'a');
            }
            CHECK.due("eight sets and " + signs + " signs", signs == 8 ? 560 : 0, () -> x.story(0));
        }
    }

    private static void howMany() {
        CHECK.sentence("How many");
        CHECK.due("no acts, no text: the empty order", 1, () -> told("").story(0));
        CHECK.due("no acts, a text", 0, () -> told("a").story(0));
        int[] due = {1, 2, 3, 6, 10, 20, 35, 70};
        for (int many = 1; many <= 8; many++) {
            PenPage x = told("aaaaaaaa".substring(0, many));
            for (int i = 0; i < many; i++) {
                x.act(2 * (i % 2), 0, 'a');
            }
            CHECK.due(many + " acts of two pens", due[many - 1], () -> x.story(0));
        }
        PenPage y = told("aaaaaaaa");
        for (int i = 0; i < 8; i++) {
            y.act(1, i, 'a');
        }
        CHECK.due("eight acts of one pen", 1, () -> y.story(0));
        first("its order", y, 1, 1, 1, 1, 1, 1, 1, 1);
    }

    private static void firstAsARowOfPens() {
        CHECK.sentence("the first as a row of PENS");
        PenPage x = told("aaa");
        acts(x, act(2, 0, 'a'), act(1, 0, 'a'), act(0, 0, 'a'));
        CHECK.due("all six", 6, () -> x.story(0));
        first("the least, whatever was told first", x, 0, 1, 2);
        PenPage y = told("cab");
        acts(y, act(0, 1, 'b'), act(1, 0, 'a'), act(2, 0, 'c'));
        CHECK.due("b behind a, c ahead of both", 1, () -> y.story(0));
        first("the only one", y, 1, 0, 2);
        PenPage z = told("b");
        acts(z, act(0, 0, STRIKE), act(1, 0, 'a'), act(2, 0, 'b'));
        CHECK.due("a must be struck, ahead of b or behind it", 2, () -> z.story(0));
        first("the lesser row", z, 1, 0, 2);
    }

    private static void mostActs() {
        CHECK.sentence("the most acts that can be done one behind the other in some ORDER, whatever text it makes");
        CHECK.due("no acts", 0, () -> told("").story(1));
        CHECK.due("no acts, a text", 0, () -> told("a").story(1));
        PenPage x = told("zzz");
        acts(x, act(0, 1, 'a'), act(1, 0, 'b'));
        CHECK.due("in one order none, in the other both", 2, () -> x.story(1));
        acts(x, act(0, 7, 'c'), act(1, 1, 'd'), act(2, 0, STRIKE));
        CHECK.due("pen 0 stops at 7, the others go on", 4, () -> x.story(1));
        acts(x, act(0, 0, 'e'));
        CHECK.due("what is behind it can't be done", 4, () -> x.story(1));
        PenPage y = told("");
        for (int i = 0; i < 8; i++) {
            y.act(0, 0, i % 2 == 0 ? 'a' : STRIKE);
        }
        CHECK.due("all eight", 8, () -> y.story(1));
    }

    private static void askedAnew() {
        CHECK.sentence("The STORY: how many ORDERS (what 0), the most acts (1)");
        PenPage x = told("");
        CHECK.due("none told", 1, () -> x.story(0));
        x.act(0, 0, 'a');
        CHECK.due("an act more", 0, () -> x.story(0));
        CHECK.due("it can be done", 1, () -> x.story(1));
        x.say('a');
        CHECK.due("a sign more", 1, () -> x.story(0));
        CHECK.due("its order", 0, () -> x.story(10));
        x.say(31);
        x.act(3, 0, 'a');
        CHECK.due("refused ones change nothing", 1, () -> x.story(0));
        x.clear();
        CHECK.due("cleared", 1, () -> x.story(0));
        CHECK.due("nothing can be done", 0, () -> x.story(1));
        CHECK.due("no order's pen", Check.NO_SUCH, () -> x.story(10));
    }

    private static void storyRefused() {
        CHECK.sentence("the i-th of the first ORDER (10 and i). NoSuchElementException: there is none, another what");
        PenPage x = told("ab");
        acts(x, act(2, 0, 'a'), act(1, 1, 'b'));
        CHECK.due("one order", 1, () -> x.story(0));
        first("its pens", x, 2, 1);
        for (int what : new int[] {-1, 2, 9, 12, 17, 18, LEAST, MOST}) {
            CHECK.due("what " + what, Check.NO_SUCH, () -> x.story(what));
        }
        x.say('c');
        for (int what : new int[] {10, 11, 12}) {
            CHECK.due("no order, what " + what, Check.NO_SUCH, () -> x.story(what));
        }
        PenPage y = told("aaaaaaaa");
        for (int i = 0; i < 8; i++) {
            y.act(1, 0, 'a');
        }
        CHECK.due("the eighth", 1, () -> y.story(17));
        CHECK.due("no ninth", Check.NO_SUCH, () -> y.story(18));
        CHECK.due("an empty order has none", Check.NO_SUCH, () -> told("").story(10));
    }

    private static void clears() {
        CHECK.sentence("The STORY is empty");
        PenPage x = told("aaaaaaaaaaaa");
        for (int i = 0; i < 8; i++) {
            x.act(0, 0, 'a');
        }
        x.say(97);
        x.set(0, 0, 97);
        x.feed(0, 0, 0, 0, 0);
        x.image();
        x.clear();
        CHECK.due("no acts", 0, () -> x.count(5));
        CHECK.due("no signs", 0, () -> x.count(6));
        CHECK.due("STATUS stays", 1, () -> x.count(4));
        CHECK.due("the tape stays", 20, () -> x.count(1));
        CHECK.due("pages stay", 1, () -> x.page(0, 1));
        restored(x);
        CHECK.due("the story isn't in the image", 0, () -> x.count(5));
        CHECK.due("there is room for signs", 1, () -> x.say(97));
        CHECK.due("and for acts", 1, () -> x.act(0, 0, 97));
        x.clear();
        x.clear();
        CHECK.due("an empty one stays empty", 0, () -> x.count(6));
    }

    private static void statusOfStories() {
        CHECK.sentence("STATUS: how many calls were refused: 0 acts on PAGES, 1 PACKETS with a FAULT, 2 acts of STORIES");
        PenPage x = new PenPage();
        x.say(31);
        x.act(0, 8, 97);
        x.act(0, 0, 31);
        CHECK.due("0", 0, () -> x.count(2));
        CHECK.due("1", 0, () -> x.count(3));
        CHECK.due("2", 3, () -> x.count(4));
        x.set(0, 1, 97);
        x.hear(0, 0);
        x.hear(0, 0);
        CHECK.due("0", 1, () -> x.count(2));
        CHECK.due("1", 2, () -> x.count(3));
        CHECK.due("2", 3, () -> x.count(4));
        CHECK.due("what throws isn't refused", Check.NO_SUCH, () -> x.story(2));
        CHECK.due("2", 3, () -> x.count(4));
    }

    private static void noImage() {
        CHECK.sentence("It is as the IMAGE again: true. False: there is none");
        PenPage x = new PenPage();
        x.set(0, 0, 97);
        x.set(0, 9, 97);
        CHECK.due("none at first", 0, () -> x.restore() ? 1 : 0);
        CHECK.due("nothing changes", 1, () -> x.page(0, 10));
        CHECK.due("nor STATUS", 1, () -> x.count(2));
        x.image();
        x.writers(2);
        CHECK.due("none behind writers", 0, () -> x.restore() ? 1 : 0);
        x.image();
        CHECK.due("a refused call", Check.ILLEGAL, () -> {
            x.writers(0);
            return 0;
        });
        restored(x);
        restored(x);
    }

    private static void imageKeepsPages() {
        CHECK.sentence("AN IMAGE keeps PAGES");
        PenPage x = new PenPage();
        x.writers(5);
        for (int w = 0; w < 5; w++) {
            x.set(w, 0, 97);
        }
        x.image();
        for (int w = 0; w < 5; w++) {
            x.set(w, 0, 97);
            x.strike(w, 1);
        }
        x.send(4, 0, 4, 1);
        restored(x);
        for (int w = 0; w < 5; w++) {
            int page = w;
            CHECK.due("one step of " + w, 1, () -> x.page(page, 10 + page));
            CHECK.due("one mark", 1, () -> x.page(page, 0));
            CHECK.due("it shows", 100 * w + 1, () -> x.text(page, 0, 1));
            CHECK.due("its age is the greatest", 1, () -> x.page(page, 4));
        }
        CHECK.due("not heard", 0, () -> x.page(0, 14));
        CHECK.due("five writers", 5, () -> x.count(0));
        CHECK.due("the next step", 2, () -> x.set(0, 0, 98));
        CHECK.due("of the next age", 2, () -> x.step(0, 0, 2, 1));
        restored(x);
        CHECK.due("what came behind the image isn't in it", 1, () -> x.page(0, 10));
    }

    private static void imageKeepsHeld() {
        CHECK.sentence("HELD ones");
        PenPage x = new PenPage();
        for (int n = 2; n <= 21; n++) {
            Bytes.hear(x, 0, Bytes.set(1, n, n, 97, 8 * n));
        }
        x.image();
        Bytes.hear(x, 0, Bytes.set(1, 1, 1, 97, 8));
        CHECK.due("all are had", 21, () -> x.page(0, 11));
        restored(x);
        CHECK.due("none had", 0, () -> x.page(0, 11));
        CHECK.due("no age", 0, () -> x.page(0, 4));
        CHECK.due("twenty held", 20, () -> x.page(0, 2));
        CHECK.due("the first of them", 0, () -> Bytes.hear(x, 0, Bytes.set(1, 2, 2, 97, 16)));
        CHECK.due("the last of them", 0, () -> Bytes.hear(x, 0, Bytes.set(1, 21, 21, 97, 168)));
        CHECK.due("no room for one more", 15, () -> Bytes.hear(x, 0, Bytes.set(1, 22, 21, 97, 168)));
        CHECK.due("they come in", 2, () -> Bytes.hear(x, 0, Bytes.set(1, 1, 1, 97, 8)));
        CHECK.due("all are had", 21, () -> x.page(0, 11));
        PenPage y = new PenPage();
        y.image();
        Bytes.hear(y, 0, Bytes.set(1, 2, 2, 97, 16));
        y.restore();
        CHECK.due("what is held behind the image isn't in it", 0, () -> y.page(0, 2));
        CHECK.due("it is held anew", 1, () -> Bytes.hear(y, 0, Bytes.set(1, 2, 2, 98, 16)));
    }

    private static void imageKeepsStatus() {
        CHECK.sentence("AN IMAGE keeps PAGES, HELD ones, STATUS");
        PenPage x = new PenPage();
        x.strike(0, 0);
        x.hear(0, 0);
        x.hear(0, 0);
        x.say(1);
        x.say(1);
        x.say(1);
        x.image();
        x.strike(0, 0);
        x.hear(0, 0);
        x.say(1);
        restored(x);
        for (int i = 0; i < 3; i++) {
            int what = 2 + i;
            CHECK.due("STATUS " + i, i + 1, () -> x.count(what));
        }
        x.strike(0, 0);
        CHECK.due("it goes on from there", 2, () -> x.count(2));
        restored(x);
        CHECK.due("the image's is as it was", 1, () -> x.count(2));
    }

    private static void imageKeepsNoMore() {
        CHECK.sentence("It is as the IMAGE again");
        PenPage x = told("a");
        x.act(0, 0, 'a');
        x.feed(0, 0, 0, 0, 0);
        x.image();
        x.say('b');
        x.act(0, 1, 'b');
        x.hear(0, 0);
        x.feed(4, 4, 4, 4, 4);
        x.feed(4, 4, 4, 4, 4);
        restored(x);
        CHECK.due("signs as told since", 2, () -> x.count(6));
        CHECK.due("acts too", 2, () -> x.count(5));
        CHECK.due("the story of now", 2, () -> x.story(1));
        CHECK.due("the tape of now", 40, () -> x.count(1));
        CHECK.due("the fault of now", 0, x::fault);
    }

    private static void imageInPlaceOfAnother() {
        CHECK.sentence("AN IMAGE is kept, in place of another one");
        PenPage x = new PenPage();
        x.set(0, 0, 97);
        x.strike(0, 5);
        x.image();
        x.set(0, 0, 97);
        x.strike(0, 5);
        x.image();
        x.set(0, 0, 97);
        restored(x);
        CHECK.due("the later one", 2, () -> x.page(0, 10));
        CHECK.due("its STATUS", 2, () -> x.count(2));
        x.undo(0, 2);
        x.image();
        restored(x);
        CHECK.due("a smaller text", 1, () -> x.page(0, 1));
        x.writers(2);
        x.image();
        x.set(0, 0, 97);
        restored(x);
        CHECK.due("one of an empty page", 0, () -> x.page(0, 0));
    }

    private static void imageOfFirstAndLast() {
        CHECK.sentence("AN IMAGE keeps PAGES");
        PenPage x = new PenPage();
        x.writers(5);
        for (int n = 1; n <= 60; n++) {
            x.set(4, 0, 97);
        }
        x.set(0, 0, 98);
        x.image();
        x.writers(5);
        CHECK.due("gone with writers", 0, () -> x.restore() ? 1 : 0);
        CHECK.due("an empty page 4", 0, () -> x.page(4, 14));
        CHECK.due("an empty page 0", 0, () -> x.page(0, 0));
        x.image();
        for (int n = 1; n <= 60; n++) {
            x.set(4, 0, 97);
        }
        x.set(0, 0, 98);
        restored(x);
        CHECK.due("no first step of the first writer", Check.NO_SUCH, () -> x.step(0, 0, 1, 0));
        CHECK.due("no last step of the last", Check.NO_SUCH, () -> x.step(4, 4, 60, 0));
        CHECK.due("he begins anew", 1, () -> x.set(4, 0, 99));
        CHECK.due("his mark", 99, () -> x.text(4, 0, 0));
        x.image();
        x.undo(4, 1);
        restored(x);
        CHECK.due("it shows again", 99, () -> x.text(4, 0, 0));
    }
}
