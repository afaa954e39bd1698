import java.util.Arrays;
import java.util.NoSuchElementException;

/** Writers who each have a page of their own, of one text; see README.md and the document's promises. */
public final class PenPage {
    public static final int NONE = -1;

    private static final int MOST_WRITERS = 5;
    private static final int FIRST_WRITERS = 2;
    private static final int MOST_STEPS = 60;
    private static final int SLOTS = MOST_WRITERS * MOST_STEPS;
    private static final int MOST_HELD = 20;
    private static final int MOST_AGE = 65535;
    private static final int MOST_BYTES = 400;
    private static final int FED_BYTES = 20;
    private static final int MARK_BASE = 100;

    private static final int LEAST_SIGN = 32;
    private static final int MOST_SIGN = 126;

    private static final int SET = 0;
    private static final int STRIKE = 1;
    private static final int UNDO = 2;
    private static final int MOVE = 3;
    private static final int MOST_MOVED = 6;

    private static final int KEY_LENGTH = 24;
    private static final int KEY_STRIDE = 8;
    private static final int KEY_TOP = 800;

    // Where a PACKET's bytes stand.
    private static final int AT_KIND = 0;
    private static final int AT_WRITER = 1;
    private static final int AT_NUMBER = 2;
    private static final int AT_SEEN = 3;
    private static final int AT_AGE = 8;
    private static final int AT_BODY = 10;
    private static final int AT_SET_KEY = 11;
    private static final int AT_MOVE_MARKS = 11;

    // What becomes of a PACKET that a PAGE hears.
    private static final int KNOWN = 0;
    private static final int HELD_BACK = 1;
    private static final int HAD = 2;
    private static final int FAULTY = 10;
    private static final int WRONG_LENGTH = 1;
    private static final int WRONG_BYTE = 2;
    private static final int WRONG_SUM = 3;
    private static final int OTHER_STEP = 4;
    private static final int TOO_MANY_HELD = 5;

    private static final int STATUS_COUNTS = 3;
    private static final int STATUS_ACTS = 0;
    private static final int STATUS_PACKETS = 1;
    private static final int STATUS_STORY = 2;

    private static final int MOST_TOLD = 12;
    private static final int MOST_ACTS = 8;
    private static final int PENS = 3;

    // Answers that stand in a row of their own begin here: 10 and i.
    private static final int ROW_BASE = 10;

    private final Page[] pages = new Page[MOST_WRITERS];
    private final Page[] keptPages = new Page[MOST_WRITERS];
    private final int[] status = new int[STATUS_COUNTS];
    private final int[] keptStatus = new int[STATUS_COUNTS];
    private final int[] tape = new int[MOST_BYTES];
    private final View view = new View();
    private final NewKey newKey = new NewKey();
    private final Packer packer = new Packer();
    private final Checker checker = new Checker();
    private final Story tale = new Story();
    private int writerCount = FIRST_WRITERS;
    private int tapeLength = 0;
    private int faultPlace = NONE;
    private int viewed = NONE;
    private boolean imageKept = false;

    public PenPage() {
        for (int w = 0; w < MOST_WRITERS; w++) {
            pages[w] = new Page(w);
            keptPages[w] = new Page(w);
        }
    }

    public void writers(int n) throws IllegalArgumentException {
        if (n < 1 || n > MOST_WRITERS) {
            throw new IllegalArgumentException("writers are 1 to 5");
        }
        writerCount = n;
        for (int w = 0; w < MOST_WRITERS; w++) {
            pages[w].empty();
        }
        // The tape and the latest hear()'s FAULT are no WRITER's: they stay.
        imageKept = false;
        viewed = NONE;
    }

    public int count(int what) throws NoSuchElementException {
        switch (what) {
            case 0:
                return writerCount;
            case 1:
                return tapeLength;
            case 2:
                return status[STATUS_ACTS];
            case 3:
                return status[STATUS_PACKETS];
            case 4:
                return status[STATUS_STORY];
            case 5:
                return tale.actCount;
            case 6:
                return tale.toldLength;
            default:
                throw new NoSuchElementException("no such count");
        }
    }

    public int page(int page, int what) throws NoSuchElementException {
        Page asked = pageAt(page);
        if (what >= ROW_BASE && what - ROW_BASE < writerCount) {
            return asked.stepsOf(what - ROW_BASE);
        }
        switch (what) {
            case 0:
                return viewOf(page).rowLength;
            case 1:
                return viewOf(page).textLength;
            case 2:
                return asked.heldCount;
            case 3:
                return viewOf(page).countGone(asked, writerCount);
            case 4:
                return asked.greatestAge;
            default:
                throw new NoSuchElementException("no such thing of a page");
        }
    }

    public int text(int page, int i, int what) throws NoSuchElementException {
        Page asked = pageAt(page);
        View shown = viewOf(page);
        int slot = shown.slotAt(i);
        if (slot == NONE) {
            throw new NoSuchElementException("no such place in the text");
        }
        switch (what) {
            case 0:
                return signOf(asked, slot);
            case 1:
                return markOf(slot);
            case 2:
                return shown.keyLengthOf(slot);
            default:
                return keyNumber(shown, slot, what);
        }
    }

    public int step(int page, int writer, int number, int what) throws NoSuchElementException {
        Step asked = stepAt(page, writer, number);
        switch (what) {
            case 0:
                return asked.kind();
            case 1:
                return asked.age();
            case 2:
                return viewOf(page).holds[slotOf(writer, number)] ? 1 : 0;
            case 3:
                return asked.target();
            default:
                throw new NoSuchElementException("no such thing of a step");
        }
    }

    public int set(int page, int place, int sign) throws NoSuchElementException {
        Page own = pageAt(page);
        View shown = viewOf(page);
        if (!own.canStep() || !isSign(sign) || place < 0 || place > shown.textLength) {
            return refuse(STATUS_ACTS);
        }
        newKey.aim(shown, place);
        if (!newKey.grow(page)) {
            return refuse(STATUS_ACTS);
        }
        packer.begin(SET, own);
        packer.put(sign);
        packer.putKey(newKey);
        return perform(own);
    }

    public int strike(int page, int place) throws NoSuchElementException {
        Page own = pageAt(page);
        int slot = viewOf(page).slotAt(place);
        if (!own.canStep() || slot == NONE) {
            return refuse(STATUS_ACTS);
        }
        packer.begin(STRIKE, own);
        packer.putMark(slot);
        return perform(own);
    }

    public int undo(int page, int number) throws NoSuchElementException {
        Page own = pageAt(page);
        View shown = viewOf(page);
        Step undone = own.stepOf(page, number);
        if (!own.canStep() || undone == null || !canUndo(shown, own, undone)) {
            return refuse(STATUS_ACTS);
        }
        packer.begin(UNDO, own);
        packer.put(number);
        return perform(own);
    }

    public int move(int page, int from, int to, int at) throws NoSuchElementException {
        Page own = pageAt(page);
        View shown = viewOf(page);
        if (!own.canStep() || !canMove(shown.textLength, from, to, at)) {
            return refuse(STATUS_ACTS);
        }
        packer.begin(MOVE, own);
        packer.put(to - from + 1);
        newKey.aim(shown, at);
        for (int i = from; i <= to; i++) {
            if (!newKey.grow(page)) {
                return refuse(STATUS_ACTS);
            }
            packer.putMark(shown.slotAt(i));
            packer.putKey(newKey);
        }
        return perform(own);
    }

    public int packet(int page, int writer, int number, int i) throws NoSuchElementException {
        Step asked = stepAt(page, writer, number);
        if (i == NONE) {
            return asked.length();
        }
        if (i < 0 || i >= asked.length()) {
            throw new NoSuchElementException("no such byte");
        }
        return asked.byteAt(i);
    }

    public int feed(int a, int b, int c, int d, int e) {
        if (tapeLength + FED_BYTES > MOST_BYTES) {
            return NONE;
        }
        feedFour(a);
        feedFour(b);
        feedFour(c);
        feedFour(d);
        feedFour(e);
        return tapeLength;
    }

    public int hear(int page, int n) throws NoSuchElementException, IllegalArgumentException {
        Page hearer = pageAt(page);
        if (n < 0 || n > tapeLength) {
            throw new IllegalArgumentException("the tape has not so many bytes");
        }
        tapeLength = 0;
        faultPlace = NONE;
        int fault = checker.check(tape, n, writerCount);
        if (fault != 0) {
            return refuseHeard(FAULTY + fault, checker.place);
        }
        viewed = NONE;
        int heard = hearer.receive(new Step(tape, n));
        return heard > FAULTY ? refuseHeard(heard, 0) : heard;
    }

    public int fault() {
        return faultPlace;
    }

    public int send(int from, int to, int writer, int number) throws NoSuchElementException {
        Step sent = stepAt(from, writer, number);
        Page hearer = pageAt(to);
        viewed = NONE;
        int heard = hearer.receive(sent);
        return heard > FAULTY ? refuse(STATUS_PACKETS) : heard;
    }

    public int lacks(int page, int other, int i) throws NoSuchElementException {
        Page lacking = pageAt(page);
        Page having = pageAt(other);
        if (i == NONE) {
            return countLacks(lacking, having);
        }
        int mark = findLack(lacking, having, i);
        if (mark == NONE) {
            throw new NoSuchElementException("it lacks no such step");
        }
        return mark;
    }

    public int fewest(int page, int other) throws NoSuchElementException {
        Page one = pageAt(page);
        Page two = pageAt(other);
        return countLacks(one, two) + countLacks(two, one);
    }

    public boolean alike(int page, int other) throws NoSuchElementException {
        Page one = pageAt(page);
        Page two = pageAt(other);
        return countLacks(one, two) == 0 && countLacks(two, one) == 0;
    }

    public int whose(int page, int writer) throws NoSuchElementException {
        pageAt(page);
        if (writer < 0 || writer >= writerCount) {
            throw new NoSuchElementException("no such writer");
        }
        return viewOf(page).countOf(writer);
    }

    public boolean gone(int page, int mark) throws NoSuchElementException {
        Page asked = pageAt(page);
        Step found = asked.stepOf(mark / MARK_BASE, mark % MARK_BASE);
        if (found == null || found.kind() != SET) {
            throw new NoSuchElementException("no such mark");
        }
        return viewOf(page).isGone(asked, writerCount, slotOf(found.writer(), found.number()));
    }

    public int say(int sign) {
        return isSign(sign) && tale.addSign(sign) ? tale.toldLength : refuse(STATUS_STORY);
    }

    public int act(int pen, int place, int sign) {
        boolean asTold = pen >= 0 && pen < PENS && place >= 0 && place < MOST_ACTS
                && (sign == NONE || isSign(sign));
        return asTold && tale.addAct(pen, place, sign) ? tale.actCount : refuse(STATUS_STORY);
    }

    public void clear() {
        tale.empty();
    }

    public int story(int what) throws NoSuchElementException {
        tale.solve();
        if (what == 0) {
            return tale.orders;
        }
        if (what == 1) {
            return tale.most;
        }
        if (what < ROW_BASE || what - ROW_BASE >= tale.actCount || tale.orders == 0) {
            throw new NoSuchElementException("no such thing of the story");
        }
        return tale.first[what - ROW_BASE];
    }

    public void image() {
        for (int w = 0; w < MOST_WRITERS; w++) {
            keptPages[w].copy(pages[w]);
        }
        System.arraycopy(status, 0, keptStatus, 0, STATUS_COUNTS);
        imageKept = true;
    }

    public boolean restore() {
        if (!imageKept) {
            return false;
        }
        for (int w = 0; w < MOST_WRITERS; w++) {
            pages[w].copy(keptPages[w]);
        }
        System.arraycopy(keptStatus, 0, status, 0, STATUS_COUNTS);
        viewed = NONE;
        return true;
    }

    private Page pageAt(int page) {
        if (page < 0 || page >= writerCount) {
            throw new NoSuchElementException("no such page");
        }
        return pages[page];
    }

    private Step stepAt(int page, int writer, int number) {
        Step found = pageAt(page).stepOf(writer, number);
        if (found == null) {
            throw new NoSuchElementException("the page has no such step");
        }
        return found;
    }

    /** One view serves all pages: most calls in a row ask about the same page, unchanged. */
    private View viewOf(int page) {
        if (viewed != page) {
            view.look(pages[page]);
            viewed = page;
        }
        return view;
    }

    private int keyNumber(View shown, int slot, int what) {
        if (what < ROW_BASE || what - ROW_BASE >= shown.keyLengthOf(slot)) {
            throw new NoSuchElementException("no such thing of a mark");
        }
        return shown.keyNumberOf(slot, what - ROW_BASE);
    }

    /** A moved MARK has its KEY from the MOVE, but its SIGN from its own STEP. */
    private static int signOf(Page asked, int slot) {
        Step mark = asked.steps[slot];
        return mark == null ? 0 : mark.byteAt(AT_BODY);
    }

    private int refuse(int kind) {
        status[kind]++;
        return NONE;
    }

    private int refuseHeard(int answer, int place) {
        status[STATUS_PACKETS]++;
        faultPlace = place;
        return answer;
    }

    private boolean canUndo(View shown, Page own, Step undone) {
        if (!shown.holds[slotOf(own.owner, undone.number())]) {
            return false;
        }
        if (undone.kind() != STRIKE) {
            return true;
        }
        int slot = shown.markSlot(undone, AT_BODY);
        return slot == NONE || !shown.isGone(own, writerCount, slot);
    }

    private static boolean canMove(int length, int from, int to, int at) {
        return from >= 0 && from <= to && to < length && to - from < MOST_MOVED
                && at >= 0 && at <= length && (at <= from || at > to);
    }

    private int perform(Page own) {
        Step done = packer.finish();
        own.have(done);
        own.settle();
        viewed = NONE;
        return done.number();
    }

    private void feedFour(int number) {
        for (int shift = 24; shift >= 0; shift -= 8) {
            if (tapeLength < MOST_BYTES) {
                tape[tapeLength] = number >>> shift & 255;
                tapeLength++;
            }
        }
    }

    private static boolean isSign(int sign) {
        return sign >= LEAST_SIGN && sign <= MOST_SIGN;
    }

    /** A STEP's place in rows that have one for each STEP there can be; in their order, too. */
    private static int slotOf(int writer, int number) {
        return writer * MOST_STEPS + number - 1;
    }

    private static int markOf(int slot) {
        return slot / MOST_STEPS * MARK_BASE + slot % MOST_STEPS + 1;
    }

    private static int countLacks(Page lacking, Page having) {
        int found = 0;
        for (int slot = 0; slot < SLOTS; slot++) {
            if (isLack(lacking, having, slot)) {
                found++;
            }
        }
        return found;
    }

    private static int findLack(Page lacking, Page having, int i) {
        int found = 0;
        for (int slot = 0; slot < SLOTS; slot++) {
            if (isLack(lacking, having, slot)) {
                if (found == i) {
                    return markOf(slot);
                }
                found++;
            }
        }
        return NONE;
    }

    private static boolean isLack(Page lacking, Page having, int slot) {
        Step wanted = having.steps[slot];
        if (wanted == null) {
            return false;
        }
        Step present = lacking.steps[slot];
        return present == null || !present.sameAs(wanted);
    }

    /** A STEP, kept as the bytes of its PACKET: two are the same if their bytes are. */
    private static final class Step {
        private final int[] bytes;

        Step(int[] row, int length) {
            bytes = Arrays.copyOf(row, Math.max(0, Math.min(length, row.length)));
        }

        int length() {
            return bytes.length;
        }

        int byteAt(int i) {
            return i >= 0 && i < bytes.length ? bytes[i] : 0;
        }

        int pairAt(int i) {
            return i >= 0 && i < bytes.length - 1 ? bytes[i] * 256 + bytes[i + 1] : 0;
        }

        int kind() {
            return byteAt(AT_KIND);
        }

        int writer() {
            return byteAt(AT_WRITER);
        }

        int number() {
            return byteAt(AT_NUMBER);
        }

        int seen(int writer) {
            return byteAt(AT_SEEN + writer);
        }

        int age() {
            return pairAt(AT_AGE);
        }

        /** The MARK of a STRIKE, the number of an UNDO's STEP, 0 of others. */
        int target() {
            if (kind() == STRIKE) {
                return byteAt(AT_BODY) * MARK_BASE + byteAt(AT_BODY + 1);
            }
            return kind() == UNDO ? byteAt(AT_BODY) : 0;
        }

        /** The slot of the MARK that stands at a place of the bytes, or NONE. */
        int markedSlot(int at) {
            int writer = byteAt(at);
            int number = byteAt(at + 1);
            boolean canBe = writer < MOST_WRITERS && number >= 1 && number <= MOST_STEPS;
            return canBe ? slotOf(writer, number) : NONE;
        }

        /** Where a MOVE's next MARK stands, behind the one at a place and its KEY. */
        int behindMoved(int at) {
            return at + 3 + 2 * byteAt(at + 2);
        }

        boolean sameAs(Step other) {
            if (this == other) {
                return true;
            }
            if (other == null || other.bytes.length != bytes.length) {
                return false;
            }
            for (int i = 0; i < bytes.length; i++) {
                if (bytes[i] != other.bytes[i]) {
                    return false;
                }
            }
            return true;
        }
    }

    /** What one WRITER has: of each WRITER his STEPS 1 to some number, and HELD ones. */
    private static final class Page {
        private final int owner;
        private final Step[] steps = new Step[SLOTS];
        private final int[] counts = new int[MOST_WRITERS];
        private final Step[] held = new Step[MOST_HELD];
        private int heldCount = 0;
        private int greatestAge = 0;

        Page(int writer) {
            owner = writer;
        }

        void empty() {
            for (int slot = 0; slot < SLOTS; slot++) {
                steps[slot] = null;
            }
            for (int i = 0; i < MOST_HELD; i++) {
                held[i] = null;
            }
            Arrays.fill(counts, 0);
            heldCount = 0;
            greatestAge = 0;
        }

        void copy(Page other) {
            for (int slot = 0; slot < SLOTS; slot++) {
                steps[slot] = other.steps[slot];
            }
            for (int i = 0; i < MOST_HELD; i++) {
                held[i] = other.held[i];
            }
            System.arraycopy(other.counts, 0, counts, 0, MOST_WRITERS);
            heldCount = other.heldCount;
            greatestAge = other.greatestAge;
        }

        int stepsOf(int writer) {
            return writer >= 0 && writer < MOST_WRITERS ? counts[writer] : 0;
        }

        Step stepOf(int writer, int number) {
            return number >= 1 && number <= stepsOf(writer) ? steps[slotOf(writer, number)] : null;
        }

        boolean canStep() {
            return counts[owner] < MOST_STEPS && greatestAge < MOST_AGE;
        }

        /** 0, 1, 2, or 10 and a FAULT that only the page can tell. */
        int receive(Step step) {
            Step known = stepOf(step.writer(), step.number());
            if (known == null) {
                known = heldOf(step.writer(), step.number());
            }
            if (known != null) {
                return known.sameAs(step) ? KNOWN : FAULTY + OTHER_STEP;
            }
            if (isReady(step)) {
                have(step);
                settle();
                return HAD;
            }
            if (heldCount >= MOST_HELD) {
                return FAULTY + TOO_MANY_HELD;
            }
            held[heldCount] = step;
            heldCount++;
            return HELD_BACK;
        }

        void have(Step step) {
            int writer = step.writer();
            if (writer < MOST_WRITERS && counts[writer] < MOST_STEPS) {
                counts[writer]++;
                steps[slotOf(writer, counts[writer])] = step;
                greatestAge = Math.max(greatestAge, step.age());
            }
        }

        /** HELD ones that can be had now are had; a round takes one out, so there are no more rounds than HELD ones. */
        void settle() {
            dropOvertaken();
            for (int round = 0; round < MOST_HELD; round++) {
                int least = leastReady();
                if (least == NONE) {
                    return;
                }
                have(held[least]);
                dropOvertaken();
            }
        }

        private Step heldOf(int writer, int number) {
            for (int i = 0; i < heldCount; i++) {
                if (held[i].writer() == writer && held[i].number() == number) {
                    return held[i];
                }
            }
            return null;
        }

        private boolean isReady(Step step) {
            for (int w = 0; w < MOST_WRITERS; w++) {
                if (counts[w] < step.seen(w)) {
                    return false;
                }
            }
            return true;
        }

        /** Takes out HELD ones whose number the page has: that one itself, or another that its writer did. */
        private void dropOvertaken() {
            int left = 0;
            for (int i = 0; i < heldCount; i++) {
                if (held[i].number() > stepsOf(held[i].writer())) {
                    held[left] = held[i];
                    left++;
                }
            }
            for (int i = left; i < heldCount; i++) {
                held[i] = null;
            }
            heldCount = left;
        }

        private int leastReady() {
            int least = NONE;
            int leastSlot = SLOTS;
            for (int i = 0; i < heldCount; i++) {
                int slot = slotOf(held[i].writer(), held[i].number());
                if (slot < leastSlot && isReady(held[i])) {
                    least = i;
                    leastSlot = slot;
                }
            }
            return least;
        }
    }

    /** What follows from a page's STEPS: which HOLD, THE ROW, THE TEXT; made anew when the page has changed. */
    private static final class View {
        private final boolean[] holds = new boolean[SLOTS];
        private final boolean[] struck = new boolean[SLOTS];
        private final Step[] keyStep = new Step[SLOTS];
        private final int[] keyAt = new int[SLOTS];
        private final int[] row = new int[SLOTS];
        private final int[] shown = new int[SLOTS];
        private final int[] firstStrike = new int[MOST_WRITERS];
        private int rowLength = 0;
        private int textLength = 0;

        void look(Page page) {
            for (int slot = 0; slot < SLOTS; slot++) {
                Step step = page.steps[slot];
                holds[slot] = step != null;
                struck[slot] = false;
                keyStep[slot] = step != null && step.kind() == SET ? step : null;
                keyAt[slot] = AT_SET_KEY;
            }
            undoSteps(page);
            applySteps(page);
            makeRow();
            makeText();
        }

        /** The slot of the MARK at a place of a STEP's bytes, or NONE: what another page has as a SET may be none here. */
        int markSlot(Step step, int at) {
            int slot = step.markedSlot(at);
            return slot != NONE && keyStep[slot] != null ? slot : NONE;
        }

        /** The slot of THE TEXT's i-th, or NONE. */
        int slotAt(int i) {
            return i >= 0 && i < textLength ? row[shown[i]] : NONE;
        }

        int keyLengthOf(int slot) {
            return keyStep[slot] == null ? 0 : keyStep[slot].byteAt(keyAt[slot]);
        }

        int keyNumberOf(int slot, int k) {
            return keyStep[slot] == null ? 0 : keyStep[slot].pairAt(keyAt[slot] + 1 + 2 * k);
        }

        int countOf(int writer) {
            int found = 0;
            for (int i = 0; i < textLength; i++) {
                if (slotAt(i) / MOST_STEPS == writer) {
                    found++;
                }
            }
            return found;
        }

        int countGone(Page page, int writerCount) {
            int found = 0;
            for (int i = 0; i < rowLength; i++) {
                if (isGone(page, writerCount, row[i])) {
                    found++;
                }
            }
            return found;
        }

        boolean isGone(Page page, int writerCount, int slot) {
            if (!struck[slot]) {
                return false;
            }
            for (int w = 0; w < writerCount; w++) {
                firstStrike[w] = findStrike(page, w, slot);
                if (firstStrike[w] == NONE) {
                    return false;
                }
            }
            for (int w = 0; w < writerCount; w++) {
                if (w != page.owner && !sawStrikes(page, w, writerCount)) {
                    return false;
                }
            }
            return true;
        }

        int compareKeys(int slot, int other) {
            Step one = keyStep[slot];
            Step two = keyStep[other];
            if (one == null || two == null) {
                return 0;
            }
            int length = one.byteAt(keyAt[slot]);
            int otherLength = two.byteAt(keyAt[other]);
            for (int k = 0; k < length && k < otherLength; k++) {
                int apart = one.pairAt(keyAt[slot] + 1 + 2 * k) - two.pairAt(keyAt[other] + 1 + 2 * k);
                if (apart != 0) {
                    return apart;
                }
            }
            return length - otherLength;
        }

        private void undoSteps(Page page) {
            for (int w = 0; w < MOST_WRITERS; w++) {
                for (int n = page.stepsOf(w); n >= 1; n--) {
                    Step step = page.stepOf(w, n);
                    if (step != null && step.kind() == UNDO && holds[slotOf(w, n)]) {
                        undoStep(page, w, step.target());
                    }
                }
            }
        }

        /** A PACKET may tell an UNDO of STEP 0, which isn't there. */
        private void undoStep(Page page, int writer, int number) {
            if (page.stepOf(writer, number) != null) {
                holds[slotOf(writer, number)] = false;
            }
        }

        private void applySteps(Page page) {
            for (int slot = 0; slot < SLOTS; slot++) {
                Step step = page.steps[slot];
                if (step != null && holds[slot] && step.kind() == STRIKE) {
                    strikeMark(step);
                } else if (step != null && holds[slot] && step.kind() == MOVE && canBeMoved(step)) {
                    moveMarks(step);
                }
            }
        }

        private void strikeMark(Step step) {
            int slot = markSlot(step, AT_BODY);
            if (slot != NONE) {
                struck[slot] = true;
            }
        }

        /** A MOVE with one MARK that is no SET counts for nothing as a whole. */
        private boolean canBeMoved(Step step) {
            int at = AT_MOVE_MARKS;
            for (int i = 0; i < step.byteAt(AT_BODY); i++) {
                if (markSlot(step, at) == NONE) {
                    return false;
                }
                at = step.behindMoved(at);
            }
            return true;
        }

        private void moveMarks(Step step) {
            int at = AT_MOVE_MARKS;
            for (int i = 0; i < step.byteAt(AT_BODY); i++) {
                int slot = markSlot(step, at);
                if (slot != NONE && outranks(step, keyStep[slot])) {
                    keyStep[slot] = step;
                    keyAt[slot] = at + 2;
                }
                at = step.behindMoved(at);
            }
        }

        /** Steps come by WRITER and number, so of like AGES the one that comes later is the one that counts. */
        private static boolean outranks(Step step, Step present) {
            return present == null || present.kind() != MOVE || step.age() >= present.age();
        }

        private void makeRow() {
            rowLength = 0;
            for (int slot = 0; slot < SLOTS; slot++) {
                if (keyStep[slot] != null) {
                    insertMark(slot);
                }
            }
        }

        /** Marks come by their numbers, so one of a like KEY goes behind those that are there. */
        private void insertMark(int slot) {
            int low = 0;
            int high = rowLength;
            for (int halving = 0; low < high && halving < SLOTS; halving++) {
                int middle = (low + high) / 2;
                if (compareKeys(row[middle], slot) <= 0) {
                    low = middle + 1;
                } else {
                    high = middle;
                }
            }
            for (int i = rowLength; i > low; i--) {
                row[i] = row[i - 1];
            }
            row[low] = slot;
            rowLength++;
        }

        private void makeText() {
            textLength = 0;
            for (int i = 0; i < rowLength; i++) {
                if (holds[row[i]] && !struck[row[i]]) {
                    shown[textLength] = i;
                    textLength++;
                }
            }
        }

        /** A later STRIKE is seen only by who has seen the first one too. */
        private int findStrike(Page page, int writer, int slot) {
            for (int n = 1; n <= page.stepsOf(writer); n++) {
                Step step = page.stepOf(writer, n);
                if (step != null && step.kind() == STRIKE && holds[slotOf(writer, n)]
                        && markSlot(step, AT_BODY) == slot) {
                    return n;
                }
            }
            return NONE;
        }

        private boolean sawStrikes(Page page, int writer, int writerCount) {
            Step latest = page.stepOf(writer, page.stepsOf(writer));
            if (latest == null) {
                return false;
            }
            for (int w = 0; w < writerCount; w++) {
                if (w != writer && latest.seen(w) < firstStrike[w]) {
                    return false;
                }
            }
            return true;
        }
    }

    /** A NEW KEY grows between two others; each one grown is the lower bound of the next, as a MOVE asks. */
    private static final class NewKey {
        private final int[] low = new int[KEY_LENGTH];
        private final int[] high = new int[KEY_LENGTH];
        private int lowLength = 0;
        private int highLength = 0;

        /** Takes the bounds for a place of THE TEXT: behind the MARK ahead of it, in THE ROW. */
        void aim(View view, int place) {
            lowLength = 0;
            highLength = 0;
            int next = 0;
            int slot = view.slotAt(place - 1);
            if (slot != NONE) {
                lowLength = load(low, view, slot);
                next = behindLike(view, view.shown[place - 1]);
            }
            if (next < view.rowLength) {
                highLength = load(high, view, view.row[next]);
            }
        }

        /** False if there is none of 24 NUMBERS or fewer. */
        boolean grow(int writer) {
            boolean counts = highLength > 0;
            for (int k = 0; k < KEY_LENGTH; k++) {
                int x = k < lowLength ? low[k] : 0;
                int y = counts && k < highLength ? high[k] : KEY_TOP;
                int under = x / KEY_STRIDE;
                int over = y / KEY_STRIDE;
                if (over - under >= 2) {
                    low[k] = (under + over) / 2 * KEY_STRIDE + writer;
                    lowLength = k + 1;
                    return true;
                }
                low[k] = x;
                counts = counts && x == y;
            }
            return false;
        }

        private static int load(int[] into, View view, int slot) {
            int length = Math.min(into.length, view.keyLengthOf(slot));
            for (int k = 0; k < length; k++) {
                into[k] = view.keyNumberOf(slot, k);
            }
            return length;
        }

        /** The place in THE ROW of the next MARK with another KEY. */
        private static int behindLike(View view, int at) {
            int next = at + 1;
            while (next < view.rowLength && view.compareKeys(view.row[at], view.row[next]) == 0) {
                next++;
            }
            return next;
        }
    }

    /** Writes the PACKET of a STEP that a WRITER does on his page. */
    private static final class Packer {
        private final int[] bytes = new int[MOST_BYTES];
        private int length = 0;

        void begin(int kind, Page own) {
            length = 0;
            put(kind);
            put(own.owner);
            put(own.stepsOf(own.owner) + 1);
            for (int w = 0; w < MOST_WRITERS; w++) {
                put(own.stepsOf(w));
            }
            putPair(own.greatestAge + 1);
        }

        void put(int value) {
            if (length < bytes.length) {
                bytes[length] = value & 255;
                length++;
            }
        }

        void putPair(int value) {
            put(value >>> 8);
            put(value);
        }

        void putMark(int slot) {
            put(slot / MOST_STEPS);
            put(slot % MOST_STEPS + 1);
        }

        void putKey(NewKey key) {
            put(key.lowLength);
            for (int k = 0; k < key.lowLength; k++) {
                putPair(key.low[k]);
            }
        }

        Step finish() {
            int sum = 0;
            for (int i = 0; i < length; i++) {
                sum += bytes[i];
            }
            put(sum);
            return new Step(bytes, length);
        }
    }

    /** Looks along a PACKET's bytes for its first FAULT; behind one nothing more is read. */
    private static final class Checker {
        private final int[] seen = new int[MOST_WRITERS];
        private final int[] moved = new int[MOST_MOVED];
        private int[] bytes = new int[0];
        private int length = 0;
        private int at = 0;
        private int writerCount = 0;
        private int fault = 0;
        private int place = 0;

        /** The FAULT (0 without); its place is kept. */
        int check(int[] row, int n, int writers) {
            bytes = row;
            length = Math.min(n, row.length);
            at = 0;
            writerCount = writers;
            fault = 0;
            place = 0;
            int kind = take(0, MOVE);
            int writer = take(0, writers - 1);
            int number = take(1, MOST_STEPS);
            for (int w = 0; w < MOST_WRITERS; w++) {
                seen[w] = takeSeen(w, writer, number);
            }
            takePair(1, MOST_AGE);
            takeBody(kind, number);
            takeSum();
            if (at < length) {
                fail(WRONG_LENGTH, at);
            }
            return fault;
        }

        private void fail(int kind, int where) {
            if (fault == 0) {
                fault = kind;
                place = where;
            }
        }

        private int read() {
            if (fault != 0) {
                return 0;
            }
            if (at < 0 || at >= length) {
                fail(WRONG_LENGTH, length);
                return 0;
            }
            int value = bytes[at];
            at++;
            return value;
        }

        private int take(int least, int most) {
            int start = at;
            int value = read();
            if (value < least || value > most) {
                fail(WRONG_BYTE, start);
            }
            return value;
        }

        private void takePair(int least, int most) {
            int start = at;
            int value = read() * 256;
            value += read();
            if (value < least || value > most) {
                fail(WRONG_BYTE, start);
            }
        }

        private int takeSeen(int of, int writer, int number) {
            if (of == writer) {
                return take(number - 1, number - 1);
            }
            return take(0, of < writerCount ? MOST_STEPS : 0);
        }

        private void takeBody(int kind, int number) {
            if (fault != 0) {
                return;
            }
            if (kind == SET) {
                take(LEAST_SIGN, MOST_SIGN);
                takeKey();
            } else if (kind == STRIKE) {
                takeMark();
            } else if (kind == UNDO) {
                take(0, number - 1);
            } else {
                takeMoved();
            }
        }

        private void takeMoved() {
            int many = take(1, MOST_MOVED);
            for (int i = 0; i < many && fault == 0; i++) {
                int start = at;
                moved[i] = takeMark();
                for (int j = 0; j < i; j++) {
                    if (moved[j] == moved[i]) {
                        fail(WRONG_BYTE, start);
                    }
                }
                takeKey();
            }
        }

        private int takeMark() {
            int writer = take(0, writerCount - 1);
            if (fault != 0 || writer >= MOST_WRITERS) {
                return NONE;
            }
            return slotOf(writer, take(1, seen[writer]));
        }

        private void takeKey() {
            int many = take(1, KEY_LENGTH);
            for (int k = 0; k < many && fault == 0; k++) {
                takePair(k == many - 1 ? KEY_STRIDE : 0, KEY_TOP - 1);
            }
        }

        private void takeSum() {
            int sum = 0;
            for (int i = 0; i < at; i++) {
                sum += bytes[i];
            }
            int start = at;
            if (read() != sum % 256) {
                fail(WRONG_SUM, start);
            }
        }
    }

    /** A TEXT told and acts of PENS, and which ORDERS of the acts make the text. */
    private static final class Story {
        private final int[] told = new int[MOST_TOLD];
        private final int[] pens = new int[MOST_ACTS];
        private final int[] places = new int[MOST_ACTS];
        private final int[] signs = new int[MOST_ACTS];
        private final int[] path = new int[MOST_ACTS];
        private final int[] first = new int[MOST_ACTS];
        private final int[][] texts = new int[MOST_ACTS + 1][MOST_ACTS];
        private final int[] lengths = new int[MOST_ACTS + 1];
        private int toldLength = 0;
        private int actCount = 0;
        private int orders = 0;
        private int most = 0;
        private boolean solved = false;

        void empty() {
            toldLength = 0;
            actCount = 0;
            solved = false;
        }

        boolean addSign(int sign) {
            if (toldLength >= MOST_TOLD) {
                return false;
            }
            told[toldLength] = sign;
            toldLength++;
            solved = false;
            return true;
        }

        boolean addAct(int pen, int place, int sign) {
            if (actCount >= MOST_ACTS) {
                return false;
            }
            pens[actCount] = pen;
            places[actCount] = place;
            signs[actCount] = sign;
            actCount++;
            solved = false;
            return true;
        }

        void solve() {
            if (!solved) {
                orders = 0;
                most = 0;
                lengths[0] = 0;
                walk(0);
                solved = true;
            }
        }

        /** PENS are tried from the least on, so the first ORDER found is the first as a row of PENS. */
        private void walk(int depth) {
            most = Math.max(most, depth);
            if (depth >= actCount || depth >= MOST_ACTS) {
                finishOrder(depth);
                return;
            }
            for (int pen = 0; pen < PENS; pen++) {
                int next = nextAct(pen, depth);
                if (next != NONE && perform(next, depth)) {
                    path[depth] = pen;
                    walk(depth + 1);
                }
            }
        }

        private void finishOrder(int depth) {
            if (lengths[depth] != toldLength) {
                return;
            }
            for (int i = 0; i < toldLength && i < MOST_ACTS; i++) {
                if (texts[depth][i] != told[i]) {
                    return;
                }
            }
            if (orders == 0) {
                System.arraycopy(path, 0, first, 0, MOST_ACTS);
            }
            orders++;
        }

        /** The act of a PEN that comes behind those of his on the way so far. */
        private int nextAct(int pen, int depth) {
            int done = 0;
            for (int i = 0; i < depth; i++) {
                if (path[i] == pen) {
                    done++;
                }
            }
            for (int a = 0; a < actCount; a++) {
                if (pens[a] == pen) {
                    if (done == 0) {
                        return a;
                    }
                    done--;
                }
            }
            return NONE;
        }

        /** Does an act on the text of a depth, making that of the next one; false if its place isn't there. */
        private boolean perform(int act, int depth) {
            int length = lengths[depth];
            int place = places[act];
            int[] before = texts[depth];
            int[] after = texts[depth + 1];
            if (signs[act] == NONE) {
                if (place >= length) {
                    return false;
                }
                System.arraycopy(before, 0, after, 0, place);
                System.arraycopy(before, place + 1, after, place, length - place - 1);
                lengths[depth + 1] = length - 1;
                return true;
            }
            if (place > length || length >= MOST_ACTS) {
                return false;
            }
            System.arraycopy(before, 0, after, 0, place);
            after[place] = signs[act];
            System.arraycopy(before, place, after, place + 1, length - place);
            lengths[depth + 1] = length + 1;
            return true;
        }
    }
}
