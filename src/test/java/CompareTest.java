/** Promises 16 to 20: lacks, fewest, alike, whose, gone. */
public final class CompareTest {
    private static final Check CHECK = new Check();

    public static void main(String[] args) {
        lacks();
        otherwise();
        whose();
        goneOfTwo();
        goneOfThree();
        goneUndone();
        goneRefused();
        noSuchPage();
        CHECK.finish();
    }

    private static void lacks() {
        PenPage x = new PenPage();
        x.writers(3);
        for (int n = 0; n < 3; n++) {
            x.set(0, 0, 97);
        }
        x.set(1, 0, 98);
        x.send(1, 0, 1, 1);
        x.send(0, 2, 0, 3);
        int[] due = {1, 2, 3, 101};
        CHECK.due("16: how many, held ones too", 4, () -> x.lacks(2, 0, PenPage.NONE));
        for (int i = 0; i < due.length; i++) {
            int at = i;
            CHECK.due("16: lack " + i, due[i], () -> x.lacks(2, 0, at));
        }
        for (int i : new int[] {-2, 4, Integer.MIN_VALUE, Integer.MAX_VALUE}) {
            CHECK.due("16: lack " + i, Check.NO_SUCH, () -> x.lacks(2, 0, i));
        }
        CHECK.due("16: the other way none", 0, () -> x.lacks(0, 2, PenPage.NONE));
        CHECK.due("16: none to tell", Check.NO_SUCH, () -> x.lacks(0, 2, 0));
        CHECK.due("16: of itself", 0, () -> x.lacks(0, 0, PenPage.NONE));
        CHECK.due("17: one way", 4, () -> x.fewest(0, 2));
        CHECK.due("17: the same the other way", 4, () -> x.fewest(2, 0));
        x.set(2, 0, 99);
        CHECK.due("17: both ways", 5, () -> x.fewest(0, 2));
        CHECK.due("17: of itself", 0, () -> x.fewest(1, 1));
        CHECK.due("18: not alike", 0, () -> x.alike(0, 2) ? 1 : 0);
        CHECK.due("18: itself", 1, () -> x.alike(2, 2) ? 1 : 0);
        x.send(2, 0, 2, 1);
        x.send(0, 2, 0, 1);
        x.send(0, 2, 0, 2);
        CHECK.due("18: one is missing", 0, () -> x.alike(0, 2) ? 1 : 0);
        x.send(0, 2, 1, 1);
        CHECK.due("18: alike", 1, () -> x.alike(0, 2) ? 1 : 0);
        CHECK.due("18: the other way", 1, () -> x.alike(2, 0) ? 1 : 0);
        CHECK.due("18: like texts", x.text(0, 2, 1), () -> x.text(2, 2, 1));
        x.send(0, 1, 0, 3);
        CHECK.due("18: only one has heard", 0, () -> x.alike(0, 1) ? 1 : 0);
    }

    private static void otherwise() {
        PenPage x = new PenPage();
        x.set(0, 0, 97);
        Bytes.hear(x, 1, Bytes.set(0, 1, 1, 98, 400));
        CHECK.due("16: has it otherwise", 1, () -> x.lacks(1, 0, PenPage.NONE));
        CHECK.due("16: the one", 1, () -> x.lacks(1, 0, 0));
        CHECK.due("16: the other way too", 1, () -> x.lacks(0, 1, PenPage.NONE));
        CHECK.due("17: each counts", 2, () -> x.fewest(0, 1));
        CHECK.due("18: not alike", 0, () -> x.alike(0, 1) ? 1 : 0);

        PenPage y = new PenPage();
        y.set(0, 0, 97);
        Bytes.hear(y, 1, Bytes.set(0, 1, 1, 97, 400));
        CHECK.due("18: the same by another way", 1, () -> y.alike(0, 1) ? 1 : 0);
    }

    private static void whose() {
        PenPage x = new PenPage();
        x.set(0, 0, 97);
        x.set(0, 0, 98);
        x.set(1, 0, 99);
        x.send(1, 0, 1, 1);
        CHECK.due("19: of 0", 2, () -> x.whose(0, 0));
        CHECK.due("19: of 1", 1, () -> x.whose(0, 1));
        CHECK.due("19: on page 1", 0, () -> x.whose(1, 0));
        x.strike(0, 0);
        CHECK.due("19: struck ones don't stand", 1, () -> x.whose(0, 0));
        x.undo(0, 3);
        CHECK.due("19: undone", 2, () -> x.whose(0, 0));
        for (int writer : new int[] {-1, 2, 5, Integer.MIN_VALUE, Integer.MAX_VALUE}) {
            CHECK.due("19: writer " + writer, Check.NO_SUCH, () -> x.whose(0, writer));
        }
    }

    private static void goneOfTwo() {
        PenPage x = new PenPage();
        x.set(0, 0, 97);
        x.send(0, 1, 0, 1);
        x.strike(0, 0);
        x.send(0, 1, 0, 2);
        CHECK.due("20: one strike", 0, () -> x.gone(0, 1) ? 1 : 0);
        CHECK.due("it shows no more, so writer 1 can't strike it", PenPage.NONE, () -> x.strike(1, 0));
        Bytes.hear(x, 1, Bytes.seal(1, 1, 1, 2, 0, 0, 0, 0, 0, 3, 0, 1));
        CHECK.due("20: page 1: writer 0 saw no strike of 1", 0, () -> x.gone(1, 1) ? 1 : 0);
        x.send(1, 0, 1, 1);
        CHECK.due("20: page 0: writer 1 saw, writer 0 has it now", 1, () -> x.gone(0, 1) ? 1 : 0);
        CHECK.due("4: one gone", 1, () -> x.page(0, 3));
        CHECK.due("4: none gone on page 1", 0, () -> x.page(1, 3));
        x.set(0, 0, 98);
        x.send(0, 1, 0, 3);
        CHECK.due("20: page 1: writer 0's latest saw it", 1, () -> x.gone(1, 1) ? 1 : 0);
        CHECK.due("9: not undone any more", PenPage.NONE, () -> x.undo(1, 1));
    }

    private static void goneOfThree() {
        PenPage x = new PenPage();
        x.writers(3);
        x.set(0, 0, 97);
        x.send(0, 1, 0, 1);
        x.send(0, 2, 0, 1);
        x.strike(0, 0);
        x.strike(1, 0);
        x.strike(2, 0);
        x.send(1, 0, 1, 1);
        x.send(2, 0, 2, 1);
        CHECK.due("20: all struck, none saw", 0, () -> x.gone(0, 1) ? 1 : 0);
        x.send(0, 1, 0, 2);
        x.send(2, 1, 2, 1);
        x.set(1, 0, 98);
        x.send(1, 0, 1, 2);
        CHECK.due("20: 1 saw, 2 didn't", 0, () -> x.gone(0, 1) ? 1 : 0);
        x.send(0, 2, 0, 2);
        x.set(2, 0, 98);
        x.send(2, 0, 2, 2);
        CHECK.due("20: 2 saw but that of 0", 0, () -> x.gone(0, 1) ? 1 : 0);
        x.send(1, 2, 1, 1);
        x.set(2, 0, 98);
        x.send(2, 0, 2, 3);
        CHECK.due("20: all saw all", 1, () -> x.gone(0, 1) ? 1 : 0);
        CHECK.due("20: not on page 1", 0, () -> x.gone(1, 1) ? 1 : 0);
    }

    private static void goneUndone() {
        PenPage x = new PenPage();
        x.set(0, 0, 97);
        x.send(0, 1, 0, 1);
        x.strike(0, 0);
        x.strike(1, 0);
        x.undo(1, 1);
        x.send(0, 1, 0, 2);
        x.set(1, 0, 98);
        for (int n = 1; n <= 3; n++) {
            x.send(1, 0, 1, n);
        }
        CHECK.due("20: a strike that doesn't hold is none", 0, () -> x.gone(0, 1) ? 1 : 0);
        CHECK.due("9: so it can be undone", 3, () -> x.undo(0, 2));

        PenPage y = new PenPage();
        y.set(0, 0, 97);
        y.send(0, 1, 0, 1);
        y.strike(0, 0);
        y.undo(0, 2);
        y.strike(0, 0);
        y.send(0, 1, 0, 2);
        y.send(0, 1, 0, 3);
        y.strike(1, 0);
        y.send(0, 1, 0, 4);
        y.send(1, 0, 1, 1);
        CHECK.due("20: what 1 saw was undone, the new one he didn't see", 0, () -> y.gone(0, 1) ? 1 : 0);
        y.set(1, 0, 98);
        y.send(1, 0, 1, 2);
        CHECK.due("20: now he saw it", 1, () -> y.gone(0, 1) ? 1 : 0);
    }

    private static void goneRefused() {
        PenPage x = new PenPage();
        x.set(0, 0, 97);
        x.strike(0, 0);
        CHECK.due("20: a mark", 0, () -> x.gone(0, 1) ? 1 : 0);
        for (int mark : new int[] {0, 2, 3, -1, -99, -100, 100, 101, 160, 201, 500, 501, Integer.MIN_VALUE, Integer.MAX_VALUE}) {
            CHECK.due("20: mark " + mark, Check.NO_SUCH, () -> x.gone(0, mark) ? 1 : 0);
        }
        CHECK.due("20: not on page 1", Check.NO_SUCH, () -> x.gone(1, 1) ? 1 : 0);
    }

    private static void noSuchPage() {
        PenPage x = new PenPage();
        x.set(0, 0, 97);
        for (int page : new int[] {-1, 2, Integer.MIN_VALUE, Integer.MAX_VALUE}) {
            CHECK.due("16: page " + page, Check.NO_SUCH, () -> x.lacks(page, 0, PenPage.NONE));
            CHECK.due("16: other " + page, Check.NO_SUCH, () -> x.lacks(0, page, PenPage.NONE));
            CHECK.due("17: page " + page, Check.NO_SUCH, () -> x.fewest(page, 0));
            CHECK.due("17: other " + page, Check.NO_SUCH, () -> x.fewest(0, page));
            CHECK.due("18: page " + page, Check.NO_SUCH, () -> x.alike(page, 0) ? 1 : 0);
            CHECK.due("18: other " + page, Check.NO_SUCH, () -> x.alike(0, page) ? 1 : 0);
            CHECK.due("19: page " + page, Check.NO_SUCH, () -> x.whose(page, 0));
            CHECK.due("20: page " + page, Check.NO_SUCH, () -> x.gone(page, 1) ? 1 : 0);
        }
    }
}
