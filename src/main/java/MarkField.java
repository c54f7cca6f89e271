import java.util.Arrays;
import java.util.NoSuchElementException;

/**
 * A register of names of goods: which of them are alike by ear and by eye, whose goods are near,
 * who is senior in which half of which land, who holds what there and who is refused for whom.
 */
public final class MarkField {
    public static final int NONE = -1;
    public static final int HIDDEN = -1000000000;

    private static final int TAPE_SIZE = 700;
    private static final int FED_AT_ONCE = 20;
    private static final int QUESTION_SIZE = 200;
    private static final int MOST_OPEN = 6;
    private static final int MOST_LANDS = 6;
    private static final int MOST_HALVES = 12;
    private static final int MOST_MARKS = 12;
    // One place more than marks can be kept: a name that is only imagined stands behind all others.
    private static final int PLACES = 13;
    private static final int MOST_LETTERS = 10;
    private static final int ALPHABET = 26;
    // An x is heard as two sounds.
    private static final int MOST_SOUNDS = 20;
    private static final int MOST_USES = 12;
    private static final int USE_SIZE = 3;
    private static final int USES_SIZE = 36;
    private static final int CLASSES = 10;
    private static final int ALL_CLASSES = 1023;
    private static final int LAST_DAY = 9999;
    // Far more than any search through days and halves can take.
    private static final int MOST_TURNS = 1000000;
    private static final int MOST_ACTS = 12;

    private static final int LIKE = 0;
    private static final int CROWD = 1;
    private static final int ROOM = 2;
    private static final int REACH = 3;
    private static final int LAPSE = 4;
    private static final int EAR = 5;
    private static final int RULES = 6;
    private static final int[] RULES_AT_FIRST = {60, 5, 2, 0, 30, 50};
    private static final int[] RULES_AT_MOST = {100, 20, 9, 5, 999, 100};

    private static final int CANNOT_STAND = 1;
    private static final int WRONG_NUMBER = 2;
    private static final int TOO_LONG = 3;
    private static final int TOO_MANY = 4;

    private static final int SILENT = -1;
    private static final int NO_PAIR = -2;
    private static final int SOUND_V = 0;
    private static final int SOUND_F = 1;
    private static final int SOUND_K = 2;
    private static final int SOUND_S = 8;
    private static final int SOUND_T = 9;
    // The sound of each letter by itself, a to z (x is told apart from this).
    private static final int[] SOUND_OF_LETTER = {
        0, 6, 2, 9, 0, 1, 2, -1, 0, 2, 2, 3, 4, 5, 0, 6, 2, 7, 8, 9, 0, 1, -1, 2, 0, 8};
    // For each letter, a to z, the bits of those that are kin to it.
    private static final int[] KIN_OF_LETTER = {
        0, 1 << 3, 1 << 14 | 1 << 4, 1 << 1, 1 << 2, 0, 0, 0, 1 << 11 | 1 << 9, 1 << 8, 0, 1 << 8,
        1 << 13, 1 << 12, 1 << 2, 1 << 16, 1 << 15, 0, 0, 0, 1 << 21, 1 << 20, 0, 0, 0, 0};
    // For each sound, V F K L M N P R S T, the bits of those that are kin to it.
    private static final int[] KIN_OF_SOUND = {
        0, 1 << 6, 1 << 8, 1 << 7, 1 << 5, 1 << 4, 1 << 1, 1 << 3, 1 << 2 | 1 << 9, 1 << 8};

    // How much of what is known of likeness has to be found anew; each holds those below it.
    private static final int FRESH = 0;
    private static final int STALE_RULES = 1;
    private static final int STALE_GOODS = 2;
    private static final int STALE_NAMES = 3;

    private final Tape tape;
    private final Reader reader;
    private final Question question;
    private final Acts acts;
    private final Standing standing;
    private final Likeness known;
    private final Likeness imagined;
    private final Register now;
    private final Register trial;
    private final Register told;
    private Register kept;
    private int faultPlace;
    private int stale;

    public MarkField() {
        tape = new Tape();
        now = new Register();
        trial = new Register();
        told = new Register();
        kept = null;
        acts = new Acts();
        known = new Likeness();
        imagined = new Likeness();
        standing = new Standing();
        reader = new Reader(tape, told);
        question = new Question(tape, now, known, standing);
        faultPlace = NONE;
        stale = STALE_NAMES;
    }

    public int feed(int a, int b, int c, int d, int e) {
        if (tape.size > TAPE_SIZE - FED_AT_ONCE) {
            return NONE;
        }
        tape.append(a);
        tape.append(b);
        tape.append(c);
        tape.append(d);
        tape.append(e);
        return tape.size;
    }

    public int register(int n) throws IllegalArgumentException {
        needBytes(n);
        int fault = reader.read(n);
        faultPlace = reader.place;
        if (fault != 0) {
            return -10 - fault;
        }
        now.copy(told);
        acts.clear();
        stale = STALE_NAMES;
        return now.marks;
    }

    public int fault() {
        return faultPlace;
    }

    public int count(int what) throws NoSuchElementException {
        switch (what) {
            case 0:
                return now.lands;
            case 1:
                return now.halfCount();
            case 2:
                return now.marks;
            case 3:
                return bitsIn(now.neighbours, CLASSES) / 2;
            case 4:
                return bitsIn(now.consents, now.marks) / 2;
            case 5:
            case 6:
            case 7:
            case 8:
            case 9:
            case 10:
                return now.rules[what - 5];
            case 11:
                return acts.size;
            case 12:
                return tape.size;
            case 13:
                return bitsIn(likeness().alike, now.marks) / 2;
            default:
                throw new NoSuchElementException("no such count");
        }
    }

    public int mark(int mark, int what) throws NoSuchElementException {
        needMark(mark);
        switch (what) {
            case 0:
                return now.filed[mark];
            case 1:
                return now.classes[mark];
            case 2:
                return now.useCounts[mark];
            case 3:
                return now.lengths[mark];
            case 4:
                return likeness().soundCounts[mark];
            case 5:
                return likeness().fieldOf(mark);
            case 6:
                return likeness().crowdedBy(now, mark);
            default:
                throw new NoSuchElementException("nothing such of a mark");
        }
    }

    public int letter(int mark, int k, boolean sounds) throws NoSuchElementException {
        needMark(mark);
        if (k < 0) {
            throw new NoSuchElementException("no such place in a name");
        }
        if (sounds) {
            Likeness l = likeness();
            return k < l.soundCounts[mark] ? l.sounds[mark * MOST_SOUNDS + k] : NONE;
        }
        return k < now.lengths[mark] ? now.letters[mark * MOST_LETTERS + k] + 1 : NONE;
    }

    public int used(int mark, int k, int what) throws NoSuchElementException {
        needMark(mark);
        if (k < 0 || k >= now.useCounts[mark]) {
            throw new NoSuchElementException("no such use");
        }
        needWhat(what, 2);
        return now.uses[now.useAt(mark, k) + what];
    }

    public int two(int mark, int other, int what) throws NoSuchElementException {
        needCouple(mark, other);
        needWhat(what, 6);
        Likeness l = likeness();
        switch (what) {
            case 0:
                return l.byLetters[Likeness.pair(mark, other)];
            case 1:
                return l.bySounds[Likeness.pair(mark, other)];
            case 2:
                return l.ofNames(now, mark, other);
            case 3:
                return l.apart[Likeness.pair(mark, other)];
            case 4:
                return l.isNear(now, mark, other) ? 1 : 0;
            case 5:
                return l.alike[mark] >> other & 1;
            default:
                return now.consents[mark] >> other & 1;
        }
    }

    public int steps(int one, int other) throws NoSuchElementException {
        if (!isClass(one) || !isClass(other)) {
            throw new NoSuchElementException("no such classes");
        }
        return now.stepsApart(1 << one, 1 << other);
    }

    public int here(int mark, int half, int day, int what)
            throws NoSuchElementException, IllegalArgumentException {
        needMark(mark);
        needHalf(half);
        needWhat(what, 3);
        needDay(day);
        if (what == 0) {
            return now.sinceOf(mark, half, day);
        }
        if (what == 1) {
            return now.priorityOf(mark, half, day);
        }
        Likeness l = likeness();
        standing.rank(now, half, day, l.groupOf(now, mark));
        standing.settle(now, l, half);
        return what == 2 ? standing.refusedFor[mark] : standing.holding >> mark & 1;
    }

    public int halves(int mark, int day, int what)
            throws NoSuchElementException, IllegalArgumentException {
        needMark(mark);
        needWhat(what, 2);
        needDay(day);
        Likeness l = likeness();
        standing.settleAll(now, l, day, l.groupOf(now, mark));
        if (what == 0) {
            return standing.entitled[mark];
        }
        return what == 1 ? standing.held[mark] : standing.refusedHalves(mark);
    }

    public int holders(int half, int day) throws NoSuchElementException, IllegalArgumentException {
        needHalf(half);
        needDay(day);
        standing.rank(now, half, day, now.allMarks());
        standing.settle(now, likeness(), half);
        return standing.holding;
    }

    public int shared(int day) throws IllegalArgumentException {
        needDay(day);
        Likeness l = likeness();
        standing.settleAll(now, l, day, now.allMarks());
        int lands = 0;
        for (int land = 0; land < now.lands; land++) {
            if (isShared(l, land)) {
                lands |= 1 << land;
            }
        }
        return lands;
    }

    public int refused(int day, int what) throws NoSuchElementException, IllegalArgumentException {
        needWhat(what, 1);
        needDay(day);
        standing.settleAll(now, likeness(), day, now.allMarks());
        int marks = 0;
        int first = NONE;
        for (int m = 0; m < now.marks; m++) {
            if (standing.entitled[m] != 0 && standing.held[m] == 0) {
                marks |= 1 << m;
                if (first == NONE || now.filed[m] < now.filed[first]) {
                    first = m;
                }
            }
        }
        return what == 0 ? marks : first;
    }

    public int firstDay(int mark, int half) throws NoSuchElementException {
        needMark(mark);
        needHalf(half);
        Likeness l = likeness();
        int among = l.groupOf(now, mark);
        int day = 0;
        for (int turn = 0; turn <= LAST_DAY && day <= LAST_DAY; turn++) {
            standing.rank(now, half, day, among);
            standing.settle(now, l, half);
            if (isIn(mark, standing.holding)) {
                return day;
            }
            day = now.nextChange(half, day, among);
        }
        return NONE;
    }

    public int would(int n, int classes, int day, int what)
            throws NoSuchElementException, IllegalArgumentException {
        needWhat(what, 3);
        needFiling(n, classes, day);
        if (!tape.takeName(n)) {
            return HIDDEN;
        }
        int mark = imagine(likeness(), n, classes, day);
        if (what == 2) {
            return imagined.fieldOf(mark);
        }
        if (what == 3) {
            return firstFreeDay(mark, day);
        }
        standing.settleAll(trial, imagined, day, imagined.groupOf(trial, mark));
        return what == 0 ? standing.held[mark] : standing.leastRefusedFor[mark];
    }

    public int free(int n, int day) throws IllegalArgumentException {
        needFiling(n, 0, day);
        if (!tape.takeName(n)) {
            return HIDDEN;
        }
        int mark = imagine(likeness(), n, 0, day);
        standing.rankAll(trial, day);
        int classes = 0;
        for (int c = 0; c < CLASSES; c++) {
            trial.classes[mark] = 1 << c;
            imagined.compareGoods(trial, mark);
            imagined.judge(trial);
            if (wouldHold(mark, trial.allHalves())) {
                classes |= 1 << c;
            }
        }
        return classes;
    }

    public int letterFor(int mark, int day) throws NoSuchElementException, IllegalArgumentException {
        needMark(mark);
        needDay(day);
        trial.copy(now);
        imagined.copy(likeness());
        standing.rankAll(trial, day);
        int wanted = now.halvesWithPriority(mark, day);
        if (wouldHold(mark, wanted)) {
            return NONE;
        }
        for (int place = 0; place < now.lengths[mark]; place++) {
            int found = letterAt(mark, place, wanted);
            if (found != NONE) {
                return ALPHABET * place + found;
            }
        }
        return NONE;
    }

    public int group(int mark) throws NoSuchElementException {
        needMark(mark);
        return likeness().groupOf(now, mark);
    }

    public int ranked(int half, int day, int k)
            throws NoSuchElementException, IllegalArgumentException {
        needHalf(half);
        needDay(day);
        standing.rank(now, half, day, now.allMarks());
        if (k < 0 || k >= standing.ranks[half]) {
            throw new NoSuchElementException("no mark of that rank");
        }
        return standing.inOrder(half, k);
    }

    public int file(int n, int classes, int day) throws IllegalArgumentException {
        needFiling(n, classes, day);
        if (!tape.takeName(n)) {
            return HIDDEN;
        }
        if (now.marks >= MOST_MARKS) {
            return NONE;
        }
        acts.keep(now);
        stale = STALE_NAMES;
        int mark = now.addMark(tape.bytes, 0, n, day);
        now.classes[mark] = classes;
        return mark;
    }

    public int use(int mark, int half, int from, int to)
            throws NoSuchElementException, IllegalArgumentException {
        needMark(mark);
        needHalf(half);
        if (!isDay(from) || !isDay(to) || to < from) {
            throw new IllegalArgumentException("no such days");
        }
        if (now.useCounts[mark] >= MOST_USES) {
            return NONE;
        }
        acts.keep(now);
        return now.addUse(mark, half, from, to);
    }

    public boolean consent(int mark, int other, boolean yes) throws NoSuchElementException {
        needCouple(mark, other);
        acts.keep(now);
        return setCouple(now.consents, mark, other, yes);
    }

    public int drop(int mark) throws NoSuchElementException {
        needMark(mark);
        acts.keep(now);
        stale = STALE_NAMES;
        now.removeMark(mark);
        return now.marks;
    }

    public int rule(int what, int v) throws NoSuchElementException, IllegalArgumentException {
        needWhat(what, RULES - 1);
        if (v < 0 || v > RULES_AT_MOST[what]) {
            throw new IllegalArgumentException("no such value of that rule");
        }
        acts.keep(now);
        stale = Math.max(stale, STALE_RULES);
        int before = now.rules[what];
        now.rules[what] = v;
        return before;
    }

    public boolean near(int one, int other, boolean yes) throws NoSuchElementException {
        if (!isClass(one) || !isClass(other) || one == other) {
            throw new NoSuchElementException("no such classes");
        }
        acts.keep(now);
        stale = Math.max(stale, STALE_GOODS);
        return setCouple(now.neighbours, one, other, yes);
    }

    public int undo() {
        if (acts.size == 0) {
            return NONE;
        }
        acts.takeBack(now);
        stale = STALE_NAMES;
        return acts.size;
    }

    public void image() {
        if (kept == null) {
            kept = new Register();
        }
        kept.copy(now);
    }

    public boolean back() {
        if (kept == null) {
            return false;
        }
        now.copy(kept);
        acts.clear();
        stale = STALE_NAMES;
        return true;
    }

    public int ask(int n, int day) throws IllegalArgumentException {
        needBytes(n);
        needDay(day);
        if (n > QUESTION_SIZE) {
            throw new IllegalArgumentException("too long a question");
        }
        standing.settleAll(now, likeness(), day, now.allMarks());
        int fault = question.read(n);
        faultPlace = question.place;
        return fault != 0 ? HIDDEN - fault : question.answer;
    }

    private static boolean isDay(int day) {
        return day >= 0 && day <= LAST_DAY;
    }

    private static boolean isClass(int c) {
        return c >= 0 && c < CLASSES;
    }

    private static boolean isIn(int k, int bits) {
        return (bits >> k & 1) != 0;
    }

    private static int bitsIn(int[] rows, int size) {
        int bits = 0;
        for (int k = 0; k < size; k++) {
            bits += Integer.bitCount(rows[k]);
        }
        return bits;
    }

    /** A couple is kept with both of its two, so that each row tells all of one's partners. */
    private static boolean setCouple(int[] rows, int one, int other, boolean yes) {
        boolean before = isIn(other, rows[one]);
        if (yes) {
            rows[one] |= 1 << other;
            rows[other] |= 1 << one;
        } else {
            rows[one] &= ~(1 << other);
            rows[other] &= ~(1 << one);
        }
        return before;
    }

    private boolean hasMark(int mark) {
        return mark >= 0 && mark < now.marks;
    }

    private void needMark(int mark) {
        if (!hasMark(mark)) {
            throw new NoSuchElementException("no such mark");
        }
    }

    private void needCouple(int mark, int other) {
        if (!hasMark(mark) || !hasMark(other) || mark == other) {
            throw new NoSuchElementException("no such two marks");
        }
    }

    private void needHalf(int half) {
        if (half < 0 || half >= now.halfCount()) {
            throw new NoSuchElementException("no such half");
        }
    }

    private static void needWhat(int what, int most) {
        if (what < 0 || what > most) {
            throw new NoSuchElementException("nothing such can be asked");
        }
    }

    private static void needDay(int day) {
        if (!isDay(day)) {
            throw new IllegalArgumentException("no such day");
        }
    }

    private void needBytes(int n) {
        if (n < 0 || n > tape.size) {
            throw new IllegalArgumentException("the tape has not so many bytes");
        }
    }

    private void needFiling(int n, int classes, int day) {
        needBytes(n);
        needDay(day);
        if (classes < 0 || classes > ALL_CLASSES) {
            throw new IllegalArgumentException("no such classes");
        }
    }

    private Likeness likeness() {
        if (stale == STALE_NAMES) {
            known.learnNames(now);
        }
        if (stale >= STALE_GOODS) {
            known.learnGoods(now);
        }
        if (stale != FRESH) {
            known.judge(now);
        }
        stale = FRESH;
        return known;
    }

    private boolean isShared(Likeness l, int land) {
        for (int a = 0; a < now.marks; a++) {
            for (int b = 0; b < now.marks; b++) {
                if (isIn(b, l.alike[a]) && halvesHeld(a, land) == 1 && halvesHeld(b, land) == 2) {
                    return true;
                }
            }
        }
        return false;
    }

    /** Of the two halves of a land those that a mark holds: 1 the first, 2 the second, 3 both. */
    private int halvesHeld(int mark, int land) {
        return standing.held[mark] >> 2 * land & 3;
    }

    /** The trial is the register with the tape's name filed behind all others: its number. */
    private int imagine(Likeness l, int n, int classes, int day) {
        trial.copy(now);
        imagined.copy(l);
        int mark = trial.addMark(tape.bytes, 0, n, day);
        trial.classes[mark] = classes;
        imagined.hear(trial, mark);
        for (int other = 0; other < mark; other++) {
            imagined.compareNames(trial, mark, other);
        }
        imagined.compareGoods(trial, mark);
        imagined.judge(trial);
        return mark;
    }

    /** In the order that was found before: no letter and no class changes a priority. */
    private boolean wouldHold(int mark, int halves) {
        for (int half = 0; half < trial.halfCount(); half++) {
            if (isIn(half, halves)) {
                standing.settle(trial, imagined, half);
                if (!isIn(mark, standing.holding)) {
                    return false;
                }
            }
        }
        return true;
    }

    /** Round the halves, on a later day wherever one is lost, till all in turn are held on one. */
    private int firstFreeDay(int mark, int from) {
        int among = imagined.groupOf(trial, mark);
        int day = from;
        int half = 0;
        int held = 0;
        for (int turn = 0; turn < MOST_TURNS && day <= LAST_DAY; turn++) {
            trial.filed[mark] = day;
            standing.rank(trial, half, day, among);
            standing.settle(trial, imagined, half);
            if (isIn(mark, standing.holding)) {
                held++;
                half = half + 1 < trial.halfCount() ? half + 1 : 0;
            } else {
                // It is kept from that half till something changes there, whatever comes elsewhere.
                held = 0;
                day = trial.nextChange(half, day, among);
            }
            if (held == trial.halfCount()) {
                return day;
            }
        }
        return NONE;
    }

    /** The least letter that frees the trial's mark at one place; the name is as before then. */
    private int letterAt(int mark, int place, int wanted) {
        int at = mark * MOST_LETTERS + place;
        byte before = trial.letters[at];
        int found = NONE;
        for (int letter = 0; letter < ALPHABET && found == NONE; letter++) {
            if (letter != before) {
                trial.letters[at] = (byte) letter;
                imagined.rename(trial, mark);
                if (wouldHold(mark, wanted)) {
                    found = letter;
                }
            }
        }
        trial.letters[at] = before;
        return found;
    }

    /** All that an image keeps and an act can change. */
    private static final class Register {
        int lands;
        int marks;
        final int[] filed = new int[PLACES];
        final int[] classes = new int[PLACES];
        final int[] lengths = new int[PLACES];
        final byte[] letters = new byte[PLACES * MOST_LETTERS];
        final int[] useCounts = new int[PLACES];
        final int[] uses = new int[PLACES * USES_SIZE];
        final int[] consents = new int[PLACES];
        final int[] neighbours = new int[CLASSES];
        final int[] rules = new int[RULES];

        Register() {
            lands = 1;
            marks = 0;
            System.arraycopy(RULES_AT_FIRST, 0, rules, 0, RULES);
        }

        void clear() {
            lands = 1;
            marks = 0;
            Arrays.fill(neighbours, 0);
            System.arraycopy(RULES_AT_FIRST, 0, rules, 0, RULES);
        }

        void copy(Register from) {
            lands = from.lands;
            marks = from.marks;
            System.arraycopy(from.filed, 0, filed, 0, marks);
            System.arraycopy(from.classes, 0, classes, 0, marks);
            System.arraycopy(from.lengths, 0, lengths, 0, marks);
            System.arraycopy(from.letters, 0, letters, 0, marks * MOST_LETTERS);
            System.arraycopy(from.useCounts, 0, useCounts, 0, marks);
            System.arraycopy(from.uses, 0, uses, 0, marks * USES_SIZE);
            System.arraycopy(from.consents, 0, consents, 0, marks);
            System.arraycopy(from.neighbours, 0, neighbours, 0, CLASSES);
            System.arraycopy(from.rules, 0, rules, 0, RULES);
        }

        int halfCount() {
            return 2 * lands;
        }

        int allHalves() {
            return (1 << halfCount()) - 1;
        }

        int allMarks() {
            return (1 << marks) - 1;
        }

        int useAt(int mark, int k) {
            return mark * USES_SIZE + k * USE_SIZE;
        }

        /** A mark without classes and uses behind all others: its number. */
        int addMark(byte[] bytes, int from, int length, int day) {
            int mark = marks;
            filed[mark] = day;
            classes[mark] = 0;
            lengths[mark] = length;
            useCounts[mark] = 0;
            consents[mark] = 0;
            for (int k = 0; k < length; k++) {
                letters[mark * MOST_LETTERS + k] = (byte) (bytes[from + k] - 'a');
            }
            marks++;
            return mark;
        }

        int addUse(int mark, int half, int from, int to) {
            int k = useCounts[mark];
            int at = useAt(mark, k);
            uses[at] = half;
            uses[at + 1] = from;
            uses[at + 2] = to;
            useCounts[mark]++;
            return k;
        }

        void removeMark(int mark) {
            int behind = marks - mark - 1;
            closeUp(filed, mark, behind, 1);
            closeUp(classes, mark, behind, 1);
            closeUp(lengths, mark, behind, 1);
            closeUp(useCounts, mark, behind, 1);
            closeUp(consents, mark, behind, 1);
            closeUp(uses, mark, behind, USES_SIZE);
            System.arraycopy(letters, (mark + 1) * MOST_LETTERS, letters, mark * MOST_LETTERS,
                    behind * MOST_LETTERS);
            marks--;
            for (int m = 0; m < marks; m++) {
                int below = consents[m] & (1 << mark) - 1;
                consents[m] = below | consents[m] >> mark + 1 << mark;
            }
        }

        private static void closeUp(int[] rows, int mark, int behind, int size) {
            System.arraycopy(rows, (mark + 1) * size, rows, mark * size, behind * size);
        }

        int stepsApart(int some, int others) {
            int reached = some;
            for (int steps = 0; steps < CLASSES; steps++) {
                if ((reached & others) != 0) {
                    return steps;
                }
                int wider = reached;
                for (int c = 0; c < CLASSES; c++) {
                    if (isIn(c, reached)) {
                        wider |= neighbours[c];
                    }
                }
                reached = wider;
            }
            return NONE;
        }

        int sinceOf(int mark, int half, int day) {
            // From this day on some use is live on each; at first that is told of no day yet.
            int covered = day + 1;
            for (int turn = 0; turn <= MOST_USES; turn++) {
                int before = covered;
                for (int k = 0; k < useCounts[mark]; k++) {
                    int at = useAt(mark, k);
                    int from = uses[at + 1];
                    if (uses[at] == half && from < covered
                            && uses[at + 2] + rules[LAPSE] >= covered - 1) {
                        covered = from;
                    }
                }
                if (covered == before) {
                    break;
                }
            }
            return covered > day ? NONE : covered;
        }

        int priorityOf(int mark, int half, int day) {
            int since = sinceOf(mark, half, day);
            if (filed[mark] > day) {
                return since;
            }
            return since == NONE ? filed[mark] : Math.min(since, filed[mark]);
        }

        int halvesWithPriority(int mark, int day) {
            int halves = 0;
            for (int half = 0; half < halfCount(); half++) {
                if (priorityOf(mark, half, day) != NONE) {
                    halves |= 1 << half;
                }
            }
            return halves;
        }

        /**
         * The first day behind one on which a priority in a half can change: between such days
         * all stands still there. A day behind the last one, if there is none.
         */
        int nextChange(int half, int day, int among) {
            int next = LAST_DAY + 1;
            for (int m = 0; m < marks; m++) {
                if (isIn(m, among)) {
                    next = sooner(next, filed[m], day);
                    for (int k = 0; k < useCounts[m]; k++) {
                        int at = useAt(m, k);
                        if (uses[at] == half) {
                            next = sooner(next, uses[at + 1], day);
                            next = sooner(next, uses[at + 2] + rules[LAPSE] + 1, day);
                        }
                    }
                }
            }
            return next;
        }

        private static int sooner(int next, int candidate, int day) {
            return candidate > day && candidate < next ? candidate : next;
        }
    }

    /** The latest registers ahead of acts, in a ring; each is made when it is first needed. */
    private static final class Acts {
        private final Register[] before = new Register[MOST_ACTS];
        private int next = 0;
        int size = 0;

        void clear() {
            size = 0;
        }

        void keep(Register now) {
            if (before[next] == null) {
                before[next] = new Register();
            }
            before[next].copy(now);
            next = (next + 1) % MOST_ACTS;
            size = Math.min(size + 1, MOST_ACTS);
        }

        void takeBack(Register now) {
            int latest = (next + MOST_ACTS - 1) % MOST_ACTS;
            if (size > 0 && before[latest] != null) {
                now.copy(before[latest]);
                next = latest;
                size--;
            }
        }
    }

    /** What follows from names, classes and rules alone, on whatever day. */
    private static final class Likeness {
        final byte[] sounds = new byte[PLACES * MOST_SOUNDS];
        final int[] soundCounts = new int[PLACES];
        final int[] byLetters = new int[PLACES * PLACES];
        final int[] bySounds = new int[PLACES * PLACES];
        final int[] apart = new int[PLACES * PLACES];
        // Of each mark the bits of those in its field, and of those that are alike to it.
        private final int[] fields = new int[PLACES];
        final int[] alike = new int[PLACES];
        private final int[] costs = new int[MOST_SOUNDS + 1];

        static int pair(int a, int b) {
            return a * PLACES + b;
        }

        private static void setPair(int[] pairs, int a, int b, int value) {
            pairs[pair(a, b)] = value;
            pairs[pair(b, a)] = value;
        }

        void copy(Likeness from) {
            System.arraycopy(from.sounds, 0, sounds, 0, sounds.length);
            System.arraycopy(from.soundCounts, 0, soundCounts, 0, PLACES);
            System.arraycopy(from.byLetters, 0, byLetters, 0, byLetters.length);
            System.arraycopy(from.bySounds, 0, bySounds, 0, bySounds.length);
            System.arraycopy(from.apart, 0, apart, 0, apart.length);
            System.arraycopy(from.fields, 0, fields, 0, PLACES);
            System.arraycopy(from.alike, 0, alike, 0, PLACES);
        }

        void learnNames(Register register) {
            for (int m = 0; m < register.marks; m++) {
                hear(register, m);
                for (int other = 0; other < m; other++) {
                    compareNames(register, m, other);
                }
            }
        }

        void learnGoods(Register register) {
            for (int m = 0; m < register.marks; m++) {
                compareGoods(register, m);
            }
        }

        void hear(Register register, int mark) {
            int at = mark * MOST_LETTERS;
            int length = register.lengths[mark];
            soundCounts[mark] = 0;
            int k = 0;
            for (int turn = 0; turn < MOST_LETTERS && k < length; turn++) {
                char one = (char) ('a' + register.letters[at + k]);
                char next = k + 1 < length ? (char) ('a' + register.letters[at + k + 1]) : ' ';
                int sound = soundOfTwo(one, next);
                if (sound != NO_PAIR) {
                    k++;
                } else if (one == 'x') {
                    addSound(mark, SOUND_K);
                    sound = SOUND_S;
                } else {
                    sound = soundOfOne(one, next, k == 0);
                }
                addSound(mark, sound);
                k++;
            }
        }

        private static int soundOfTwo(char one, char next) {
            if (next == 'h') {
                switch (one) {
                    case 'p':
                        return SOUND_F;
                    case 't':
                        return SOUND_T;
                    case 'c':
                        return SOUND_K;
                    case 's':
                        return SOUND_S;
                    case 'g':
                        return SILENT;
                    default:
                        return NO_PAIR;
                }
            }
            return one == 'c' && next == 'k' ? SOUND_K : NO_PAIR;
        }

        private static int soundOfOne(char one, char next, boolean first) {
            if (one == 'c' && (next == 'e' || next == 'i' || next == 'y')) {
                return SOUND_S;
            }
            int sound = SOUND_OF_LETTER[one - 'a'];
            return sound == SOUND_V && !first ? SILENT : sound;
        }

        private void addSound(int mark, int sound) {
            int at = mark * MOST_SOUNDS;
            int heard = soundCounts[mark];
            boolean again = heard > 0 && sounds[at + heard - 1] == sound;
            if (sound != SILENT && !again && heard < MOST_SOUNDS) {
                sounds[at + heard] = (byte) sound;
                soundCounts[mark]++;
            }
        }

        void compareNames(Register register, int a, int b) {
            int letters = likenessOf(register.letters, a * MOST_LETTERS, register.lengths[a],
                    b * MOST_LETTERS, register.lengths[b], KIN_OF_LETTER);
            setPair(byLetters, a, b, letters);
            int heard = likenessOf(sounds, a * MOST_SOUNDS, soundCounts[a],
                    b * MOST_SOUNDS, soundCounts[b], KIN_OF_SOUND);
            setPair(bySounds, a, b, heard);
        }

        private int likenessOf(byte[] rows, int a, int aLength, int b, int bLength, int[] kin) {
            int longer = Math.max(aLength, bLength);
            if (longer == 0) {
                return 100;
            }
            int far = farOf(rows, a, aLength, b, bLength, kin);
            return 100 - (50 * far + longer - 1) / longer;
        }

        /**
         * What two rows have in common at their ends costs nothing, so only what stands between
         * is gone through: names that are compared are often the same but for a letter.
         */
        private int farOf(byte[] rows, int a, int aLength, int b, int bLength, int[] kin) {
            int shorter = Math.min(aLength, bLength);
            int ahead = 0;
            while (ahead < shorter && rows[a + ahead] == rows[b + ahead]) {
                ahead++;
            }
            int behind = 0;
            while (behind < shorter - ahead
                    && rows[a + aLength - 1 - behind] == rows[b + bLength - 1 - behind]) {
                behind++;
            }
            int both = ahead + behind;
            return costOf(rows, a + ahead, aLength - both, b + ahead, bLength - both, kin);
        }

        private int costOf(byte[] rows, int a, int aLength, int b, int bLength, int[] kin) {
            for (int j = 0; j <= bLength; j++) {
                costs[j] = 2 * j;
            }
            for (int i = 0; i < aLength; i++) {
                int one = rows[a + i];
                int kinOfOne = kin[one];
                int aslant = costs[0];
                int left = aslant + 2;
                costs[0] = left;
                for (int j = 0; j < bLength; j++) {
                    int other = rows[b + j];
                    int above = costs[j + 1];
                    int least = aslant;
                    if (one != other) {
                        least += (kinOfOne >> other & 1) != 0 ? 1 : 2;
                        int gone = (left < above ? left : above) + 2;
                        least = gone < least ? gone : least;
                    }
                    aslant = above;
                    left = least;
                    costs[j + 1] = least;
                }
            }
            return costs[bLength];
        }

        /** The goods of a mark against those of all others. */
        void compareGoods(Register register, int mark) {
            for (int other = 0; other < register.marks; other++) {
                int steps = register.stepsApart(register.classes[mark], register.classes[other]);
                setPair(apart, mark, other, steps);
            }
        }

        int ofNames(Register register, int a, int b) {
            int ear = register.rules[EAR];
            int at = pair(a, b);
            return (ear * bySounds[at] + (100 - ear) * byLetters[at]) / 100;
        }

        boolean isNear(Register register, int a, int b) {
            int steps = apart[pair(a, b)];
            return steps != NONE && steps <= register.rules[REACH];
        }

        int fieldOf(int mark) {
            return Integer.bitCount(fields[mark]);
        }

        int crowdedBy(Register register, int mark) {
            return Math.max(0, fieldOf(mark) - register.rules[ROOM]);
        }

        /** A name has changed: what is compared with it anew is only what can matter, the near. */
        void rename(Register register, int mark) {
            hear(register, mark);
            for (int other = 0; other < register.marks; other++) {
                if (other != mark && isNear(register, mark, other)) {
                    compareNames(register, mark, other);
                }
            }
            judge(register);
        }

        /** The fields first, all of them, for how much is borne hangs on both fields of a couple. */
        void judge(Register register) {
            for (int a = 0; a < register.marks; a++) {
                fields[a] = 0;
                alike[a] = 0;
                for (int b = 0; b < a; b++) {
                    if (isNear(register, a, b)
                            && ofNames(register, a, b) >= register.rules[LIKE]) {
                        setCouple(fields, a, b, true);
                    }
                }
            }
            for (int a = 0; a < register.marks; a++) {
                for (int b = 0; b < a; b++) {
                    if (isIn(b, fields[a])
                            && ofNames(register, a, b) >= likenessBorne(register, a, b)) {
                        setCouple(alike, a, b, true);
                    }
                }
            }
        }

        private int likenessBorne(Register register, int a, int b) {
            int crowded = Math.max(crowdedBy(register, a), crowdedBy(register, b));
            return Math.min(100, register.rules[LIKE] + register.rules[CROWD] * crowded);
        }

        int groupOf(Register register, int mark) {
            int group = 1 << mark;
            for (int turn = 0; turn < PLACES; turn++) {
                int wider = group;
                for (int m = 0; m < register.marks; m++) {
                    if (isIn(m, group)) {
                        wider |= alike[m];
                    }
                }
                if (wider == group) {
                    break;
                }
                group = wider;
            }
            return group;
        }
    }

    /** Who stands how in a half on a day; then, over all halves of a day, what each has there. */
    private static final class Standing {
        // Of each half a row of those with priority there, the most senior one first.
        private final int[] order = new int[MOST_HALVES * PLACES];
        final int[] ranks = new int[MOST_HALVES];
        final int[] refusedFor = new int[PLACES];
        final int[] entitled = new int[PLACES];
        final int[] held = new int[PLACES];
        final int[] leastRefusedFor = new int[PLACES];
        private final int[] priorities = new int[PLACES];
        int holding = 0;

        int inOrder(int half, int k) {
            return order[half * PLACES + k];
        }

        /** Among some marks only: all that are alike to one of these have to be among them. */
        void rank(Register register, int half, int day, int among) {
            int first = half * PLACES;
            int behind = first;
            for (int m = 0; m < register.marks; m++) {
                priorities[m] = isIn(m, among) ? register.priorityOf(m, half, day) : NONE;
                if (priorities[m] != NONE) {
                    int at = behind;
                    for (; at > first && priorities[order[at - 1]] > priorities[m]; at--) {
                        order[at] = order[at - 1];
                    }
                    order[at] = m;
                    behind++;
                }
            }
            ranks[half] = behind - first;
        }

        void rankAll(Register register, int day) {
            for (int half = 0; half < register.halfCount(); half++) {
                rank(register, half, day, register.allMarks());
            }
        }

        /** Who holds a half, by the order that rank() has found there. */
        void settle(Register register, Likeness likeness, int half) {
            holding = 0;
            Arrays.fill(refusedFor, NONE);
            for (int k = 0; k < ranks[half]; k++) {
                int m = inOrder(half, k);
                int against = likeness.alike[m] & ~register.consents[m] & holding;
                if (against == 0) {
                    holding |= 1 << m;
                } else {
                    refusedFor[m] = mostSenior(half, against);
                }
            }
        }

        private int mostSenior(int half, int some) {
            for (int k = 0; k < ranks[half]; k++) {
                if (isIn(inOrder(half, k), some)) {
                    return inOrder(half, k);
                }
            }
            return NONE;
        }

        void settleAll(Register register, Likeness likeness, int day, int among) {
            for (int m = 0; m < register.marks; m++) {
                entitled[m] = 0;
                held[m] = 0;
                leastRefusedFor[m] = NONE;
            }
            for (int half = 0; half < register.halfCount(); half++) {
                rank(register, half, day, among);
                settle(register, likeness, half);
                for (int k = 0; k < ranks[half]; k++) {
                    noteHalf(inOrder(half, k), half);
                }
            }
        }

        private void noteHalf(int m, int half) {
            entitled[m] |= 1 << half;
            if (isIn(m, holding)) {
                held[m] |= 1 << half;
            } else if (leastRefusedFor[m] == NONE || refusedFor[m] < leastRefusedFor[m]) {
                leastRefusedFor[m] = refusedFor[m];
            }
        }

        int refusedHalves(int mark) {
            return entitled[mark] & ~held[mark];
        }
    }

    /** The bytes that were fed, and the tokens of a text of them. */
    private static final class Tape {
        static final int END = 0;
        static final int WORD = 1;
        static final int NUMBER = 2;
        static final int SIGN = 3;
        // A number of more figures than any that is told counts as this one.
        private static final int HUGE = 100000;

        final byte[] bytes = new byte[TAPE_SIZE];
        int size = 0;
        int kind = END;
        int start = 0;
        int value = 0;
        private int behind = 0;
        private int textEnd = 0;

        void append(int four) {
            for (int shift = 24; shift >= 0 && size < TAPE_SIZE; shift -= 8) {
                bytes[size] = (byte) (four >> shift);
                size++;
            }
        }

        /** Empties the tape; the first bytes can still be read as a text till more come. */
        void takeText(int n) {
            size = 0;
            textEnd = n;
            behind = 0;
            advance();
        }

        /** Empties the tape: whether the first bytes are a name. */
        boolean takeName(int n) {
            size = 0;
            if (n < 1 || n > MOST_LETTERS) {
                return false;
            }
            for (int k = 0; k < n; k++) {
                if (!isSmall(bytes[k])) {
                    return false;
                }
            }
            return true;
        }

        void advance() {
            start = behind;
            while (start < textEnd && isBlank(bytes[start])) {
                start++;
            }
            behind = start;
            value = 0;
            if (start >= textEnd) {
                kind = END;
            } else if (isSmall(bytes[start])) {
                kind = WORD;
                while (behind < textEnd && isSmall(bytes[behind])) {
                    behind++;
                }
            } else if (isFigure(bytes[start])) {
                kind = NUMBER;
                while (behind < textEnd && isFigure(bytes[behind])) {
                    value = Math.min(HUGE, 10 * value + bytes[behind] - '0');
                    behind++;
                }
            } else {
                kind = SIGN;
                behind++;
            }
        }

        private static boolean isBlank(byte b) {
            return b == ' ' || b == '\n';
        }

        private static boolean isSmall(byte b) {
            return b >= 'a' && b <= 'z';
        }

        private static boolean isFigure(byte b) {
            return b >= '0' && b <= '9';
        }

        int tokenLength() {
            return behind - start;
        }

        boolean isWord(String word) {
            if (kind != WORD || behind - start != word.length()) {
                return false;
            }
            for (int k = 0; k < word.length(); k++) {
                if (bytes[start + k] != word.charAt(k)) {
                    return false;
                }
            }
            return true;
        }

        boolean isSign(char sign) {
            return kind == SIGN && bytes[start] == sign;
        }
    }

    /** Reads the text of a register, till its end or its first fault. */
    private static final class Reader {
        private final Tape tape;
        private final Register into;
        private int taken = 0;
        private int fault = 0;
        int place = NONE;

        Reader(Tape tape, Register into) {
            this.tape = tape;
            this.into = into;
        }

        /** The fault, 0 if there is none; what was read into the register is of use only then. */
        int read(int n) {
            fault = 0;
            place = NONE;
            into.clear();
            tape.takeText(n);
            boolean fine = readLands();
            for (int line = 0; fine && line < TAPE_SIZE && tape.kind != Tape.END; line++) {
                fine = readLine() && takeSemicolon();
            }
            return fault;
        }

        private boolean fail(int number) {
            fault = number;
            place = tape.start;
            return false;
        }

        private boolean takeSemicolon() {
            if (!tape.isSign(';')) {
                return fail(CANNOT_STAND);
            }
            tape.advance();
            return true;
        }

        /** Not the number that a couple has already; NONE lets any number be. */
        private boolean takeNumber(int least, int most, int unlike) {
            if (tape.kind != Tape.NUMBER) {
                return fail(CANNOT_STAND);
            }
            if (tape.value < least || tape.value > most || tape.value == unlike) {
                return fail(WRONG_NUMBER);
            }
            taken = tape.value;
            tape.advance();
            return true;
        }

        private boolean readLands() {
            if (!tape.isWord("lands")) {
                return fail(CANNOT_STAND);
            }
            tape.advance();
            if (!takeNumber(1, MOST_LANDS, NONE)) {
                return false;
            }
            into.lands = taken;
            return takeSemicolon();
        }

        private boolean readLine() {
            if (tape.isWord("mark")) {
                return readMark();
            }
            if (tape.isWord("use")) {
                return readUse();
            }
            if (tape.isWord("near")) {
                return readCouple(into.neighbours, CLASSES);
            }
            if (tape.isWord("consent")) {
                return readCouple(into.consents, into.marks);
            }
            int rule = ruleOfWord();
            if (rule == NONE) {
                return fail(CANNOT_STAND);
            }
            tape.advance();
            if (!takeNumber(0, RULES_AT_MOST[rule], NONE)) {
                return false;
            }
            into.rules[rule] = taken;
            return true;
        }

        private int ruleOfWord() {
            if (tape.isWord("like")) {
                return LIKE;
            }
            if (tape.isWord("crowd")) {
                return CROWD;
            }
            if (tape.isWord("room")) {
                return ROOM;
            }
            if (tape.isWord("reach")) {
                return REACH;
            }
            if (tape.isWord("lapse")) {
                return LAPSE;
            }
            return tape.isWord("ear") ? EAR : NONE;
        }

        private boolean readMark() {
            if (into.marks >= MOST_MARKS) {
                return fail(TOO_MANY);
            }
            tape.advance();
            if (tape.kind != Tape.WORD) {
                return fail(CANNOT_STAND);
            }
            if (tape.tokenLength() > MOST_LETTERS) {
                return fail(TOO_LONG);
            }
            int name = tape.start;
            int length = tape.tokenLength();
            tape.advance();
            if (!takeNumber(0, LAST_DAY, NONE)) {
                return false;
            }
            int mark = into.addMark(tape.bytes, name, length, taken);
            // One turn more than there are classes: a number too many has been told before.
            for (int turn = 0; turn <= CLASSES && tape.kind == Tape.NUMBER; turn++) {
                if (isClass(tape.value) && isIn(tape.value, into.classes[mark])) {
                    return fail(WRONG_NUMBER);
                }
                if (!takeNumber(0, CLASSES - 1, NONE)) {
                    return false;
                }
                into.classes[mark] |= 1 << taken;
            }
            return true;
        }

        private boolean readUse() {
            tape.advance();
            boolean told = tape.kind == Tape.NUMBER && tape.value < into.marks;
            if (told && into.useCounts[tape.value] >= MOST_USES) {
                return fail(TOO_MANY);
            }
            if (!takeNumber(0, into.marks - 1, NONE)) {
                return false;
            }
            int mark = taken;
            if (!takeNumber(0, into.halfCount() - 1, NONE)) {
                return false;
            }
            int half = taken;
            if (!takeNumber(0, LAST_DAY, NONE)) {
                return false;
            }
            int from = taken;
            if (!takeNumber(from, LAST_DAY, NONE)) {
                return false;
            }
            into.addUse(mark, half, from, taken);
            return true;
        }

        private boolean readCouple(int[] rows, int size) {
            tape.advance();
            if (!takeNumber(0, size - 1, NONE)) {
                return false;
            }
            int one = taken;
            if (!takeNumber(0, size - 1, one)) {
                return false;
            }
            setCouple(rows, one, taken, true);
            return true;
        }
    }

    /** Reads a question and answers it of all marks at once: a test is the bits of its marks. */
    private static final class Question {
        // A value that is no number is one of these, asked of each mark.
        private static final int OF_MARK = -1;
        private static final int OF_FILED = -2;
        private static final int OF_CLASSES = -3;
        private static final int OF_USES = -4;
        private static final int OF_LENGTH = -5;
        private static final int OF_SOUNDS = -6;
        private static final int OF_FIELD = -7;
        private static final int OF_HOLDS = -8;
        private static final int OF_REFUSED = -9;

        private final Tape tape;
        private final Register register;
        private final Likeness likeness;
        private final Standing standing;
        private int fault = 0;
        int place = NONE;
        int answer = 0;

        Question(Tape tape, Register register, Likeness likeness, Standing standing) {
            this.tape = tape;
            this.register = register;
            this.likeness = likeness;
            this.standing = standing;
        }

        /**
         * The fault, 0 if there is none; there is an answer only then. The likeness has to be
         * fresh and the standing that of the day on which it is asked.
         */
        int read(int n) {
            fault = 0;
            place = NONE;
            tape.takeText(n);
            boolean many = tape.isWord("many");
            if (!many && !tape.isWord("first")) {
                fail(CANNOT_STAND);
                return fault;
            }
            tape.advance();
            int marks = readTest(0);
            if (fault == 0 && tape.kind != Tape.END) {
                fail(CANNOT_STAND);
            }
            answer = many ? Integer.bitCount(marks) : firstOf(marks);
            return fault;
        }

        private int firstOf(int marks) {
            for (int m = 0; m < register.marks; m++) {
                if (isIn(m, marks)) {
                    return m;
                }
            }
            return NONE;
        }

        /** Only the first fault counts. */
        private int fail(int number) {
            if (fault == 0) {
                fault = number;
                place = tape.start;
            }
            return 0;
        }

        /** What 'and' joins is gathered in both, till an 'or' or the end puts it to the rest. */
        private int readTest(int open) {
            int marks = 0;
            int both = readFact(open);
            for (int turn = 0; turn < QUESTION_SIZE && fault == 0; turn++) {
                if (tape.isWord("and")) {
                    tape.advance();
                    both &= readFact(open);
                } else if (tape.isWord("or")) {
                    tape.advance();
                    marks |= both;
                    both = readFact(open);
                } else {
                    break;
                }
            }
            return marks | both;
        }

        private int readFact(int open) {
            boolean not = tape.isWord("not");
            if (!not && !tape.isSign('(')) {
                return readComparison();
            }
            if (open >= MOST_OPEN) {
                return fail(TOO_LONG);
            }
            tape.advance();
            if (not) {
                return register.allMarks() & ~readFact(open + 1);
            }
            int marks = readTest(open + 1);
            if (fault == 0 && !tape.isSign(')')) {
                return fail(CANNOT_STAND);
            }
            if (fault == 0) {
                tape.advance();
            }
            return marks;
        }

        private int readComparison() {
            int left = readValue();
            boolean less = tape.isSign('<');
            boolean more = tape.isSign('>');
            if (fault != 0 || !less && !more && !tape.isSign('=')) {
                return fail(CANNOT_STAND);
            }
            tape.advance();
            int right = readValue();
            int marks = 0;
            for (int m = 0; m < register.marks && fault == 0; m++) {
                int one = valueOf(left, m);
                int other = valueOf(right, m);
                if (less ? one < other : more ? one > other : one == other) {
                    marks |= 1 << m;
                }
            }
            return marks;
        }

        private int readValue() {
            int value = tape.kind == Tape.NUMBER ? tape.value : valueOfWord();
            if (value == 0 && tape.kind != Tape.NUMBER) {
                return fail(CANNOT_STAND);
            }
            if (value > LAST_DAY) {
                return fail(WRONG_NUMBER);
            }
            if (fault == 0) {
                tape.advance();
            }
            return value;
        }

        /** 0 if it is no word that has a value. */
        private int valueOfWord() {
            if (tape.isWord("mark")) {
                return OF_MARK;
            }
            if (tape.isWord("filed")) {
                return OF_FILED;
            }
            if (tape.isWord("classes")) {
                return OF_CLASSES;
            }
            if (tape.isWord("uses")) {
                return OF_USES;
            }
            if (tape.isWord("length")) {
                return OF_LENGTH;
            }
            if (tape.isWord("sounds")) {
                return OF_SOUNDS;
            }
            if (tape.isWord("field")) {
                return OF_FIELD;
            }
            if (tape.isWord("holds")) {
                return OF_HOLDS;
            }
            return tape.isWord("refused") ? OF_REFUSED : 0;
        }

        private int valueOf(int value, int m) {
            switch (value) {
                case OF_MARK:
                    return m;
                case OF_FILED:
                    return register.filed[m];
                case OF_CLASSES:
                    return Integer.bitCount(register.classes[m]);
                case OF_USES:
                    return register.useCounts[m];
                case OF_LENGTH:
                    return register.lengths[m];
                case OF_SOUNDS:
                    return likeness.soundCounts[m];
                case OF_FIELD:
                    return likeness.fieldOf(m);
                case OF_HOLDS:
                    return Integer.bitCount(standing.held[m]);
                case OF_REFUSED:
                    return Integer.bitCount(standing.refusedHalves(m));
                default:
                    return value;
            }
        }
    }
}
