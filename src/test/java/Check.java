import java.util.NoSuchElementException;

/** What the tests share: an answer that is not the one that is due is told and counted. */
final class Check {
    static final long NO_SUCH = Long.MIN_VALUE;
    static final long ILLEGAL = Long.MIN_VALUE + 1;

    /** A call of the class under test. */
    interface Call {
        long answer();
    }

    /** A call without an answer. */
    interface Deed {
        void run();
    }

    private int wrong = 0;
    private String sentence = "";

    /** The words of the document that the checks from here on are about; they are told with what is wrong. */
    void sentence(String words) {
        sentence = "\"" + words + "\" ";
    }

    /** The call's answer, or NO_SUCH or ILLEGAL for what it throws. */
    static long answerOf(Call call) {
        try {
            return call.answer();
        } catch (NoSuchElementException e) {
            return NO_SUCH;
        } catch (IllegalArgumentException e) {
            return ILLEGAL;
        }
    }

    void due(String what, long want, Call call) {
        long got = answerOf(call);
        if (got != want) {
            wrong++;
            System.out.println(sentence + what + " answered " + tell(got) + ", due is " + tell(want));
        }
    }

    void yes(String what, boolean holds) {
        due(what, 1, () -> holds ? 1 : 0);
    }

    void dueDeed(String what, long want, Deed deed) {
        due(what, want, () -> {
            deed.run();
            return 0;
        });
    }

    void finish() {
        if (wrong != 0) {
            System.out.println(wrong + " answers are not as due");
            System.exit(1);
        }
    }

    static String tell(long answer) {
        if (answer == NO_SUCH) {
            return "throws.NoSuchElementException";
        }
        return answer == ILLEGAL ? "throws.IllegalArgumentException" : Long.toString(answer);
    }
}
