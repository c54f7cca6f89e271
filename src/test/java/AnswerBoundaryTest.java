/** Each sentence of the promises that only answer: 5 to 21. */
public final class AnswerBoundaryTest extends Boundaries {
    private static final int[] DAYS_OUTSIDE = {-1, 10000};
    private static final String TWELVE_ALIKE = "lands 6;room 9;" + times("mark abc 7 0;", 12);

    /** The day is looked at behind what is no such element: then that is what is told. */
    private static void dueElementFirst(String what, CallWith callOnDay) {
        due(what, NO_ELEMENT, () -> callOnDay.answer(0));
        for (int day : DAYS_OUTSIDE) {
            due(what + " ahead of day " + day, NO_ELEMENT, () -> callOnDay.answer(day));
        }
    }

    private static void dueRow(String what, int[] want, CallWith call) {
        for (int k = 0; k < want.length; k++) {
            int argument = k;
            due(what + " " + k, want[k], () -> call.answer(argument));
        }
    }

    // ---- what the register tells

    private static void count() {
        part("Promise 5: count");
        says("0 LANDS, 1 HALVES, 2 MARKS, 3 couples of NEIGHBOURS, 4 CONSENTS (couples), 5 LIKE, 6 CROWD, 7 ROOM, 8 REACH, "
                + "9 LAPSE, 10 EAR");
        MarkField x = of("lands 6;near 0 1;near 1 0;near 8 9;mark abc 0 0;mark abc 0 0;mark abc 0 1;consent 0 1;"
                + "consent 2 1;consent 2 0;like 61;crowd 6;room 3;reach 1;lapse 31;ear 51;");
        dueRow("count", new int[] {6, 12, 3, 2, 3, 61, 6, 3, 1, 31, 51, 0, 0, 3}, k -> x.count(k));
        StringBuilder all = new StringBuilder("lands 1;");
        for (int one = 0; one < 10; one++) {
            for (int other = 0; other < one; other++) {
                all.append("near ").append(one).append(' ').append(other).append(';');
            }
        }
        due("all couples of classes", 45, () -> of(all.toString()).count(3));
        MarkField full = of(TWELVE_ALIKE);
        for (int one = 0; one < 12; one++) {
            for (int other = 0; other < one; other++) {
                full.consent(one, other, true);
            }
        }
        due("all couples of marks", 66, () -> full.count(4));
        says("11 ACTS that are kept");
        due("twelve at most", 12, () -> full.count(11));
        full.undo();
        due("one undone", 11, () -> full.count(11));
        says("12 bytes of the tape");
        due("none", 0, () -> x.count(12));
        put(x, times(" ", 700));
        due("full", 700, () -> x.count(12));
        says("13 couples that are ALIKE");
        due("all twelve", 66, () -> full.count(13));
        due("none", 0, () -> new MarkField().count(13));
        says("NoSuchElementException: another what.");
        dueOutside("what", 0, 13, NO_ELEMENT, what -> x.count(what));
    }

    private static void mark() {
        part("Promise 6: mark");
        says("Of a MARK: 0 FILED, 1 CLASSES (bits), 2 USES, 3 letters, 4 SOUNDS, 5 FIELD, 6 CROWDED.");
        MarkField x = of("lands 1;room 1;mark xxxxxxxxxx 9999 9 0;mark h 0;mark xxxxxxxxxx 1 9;mark xxxxxxxxxx 2 0;"
                + times("use 0 0 0 0;", 12));
        dueRow("mark 0", new int[] {9999, 513, 12, 10, 20, 2, 1}, what -> x.mark(0, what));
        dueRow("mark 1", new int[] {0, 0, 0, 1, 0, 0, 0}, what -> x.mark(1, what));
        dueRow("mark 3", new int[] {2, 1, 0, 10, 20, 1, 0}, what -> x.mark(3, what));
        says("NoSuchElementException: no such MARK");
        dueOutside("mark", 0, 3, NO_ELEMENT, mark -> x.mark(mark, 0));
        dueOutside("mark of none", 0, -1, NO_ELEMENT, mark -> new MarkField().mark(mark, 0));
        says("another what");
        dueOutside("what", 0, 6, NO_ELEMENT, what -> x.mark(0, what));
    }

    private static void letter() {
        part("Promise 7: letter");
        says("Letter k of a NAME (1 to 26)");
        MarkField x = of("lands 1;mark abcdefghij 0;mark klmnopqrst 0;mark uvwxyz 0;mark hw 0;");
        for (int k = 0; k < 26; k++) {
            int number = k;
            due("letter " + k, k + 1, () -> x.letter(number / 10, number % 10, false));
        }
        says("or its SOUND k (sounds): 0 V, 1 F, 2 K, 3 L, 4 M, 5 N, 6 P, 7 R, 8 S, 9 T;");
        MarkField y = of("lands 1;mark afklmnprst 0;mark xxxxxxxxxx 0;");
        dueRow("sound", new int[] {0, 1, 2, 3, 4, 5, 6, 7, 8, 9, NONE}, k -> y.letter(0, k, true));
        due("the twentieth", 8, () -> y.letter(1, 19, true));
        says("NONE behind the last one.");
        due("letter 10 of ten", NONE, () -> x.letter(0, 10, false));
        due("letter 6 of six", NONE, () -> x.letter(2, 6, false));
        due("sound 20 of twenty", NONE, () -> y.letter(1, 20, true));
        due("sound 0 of none", NONE, () -> x.letter(3, 0, true));
        due("far behind", NONE, () -> x.letter(0, 2147483647, false));
        due("far behind", NONE, () -> x.letter(0, 2147483647, true));
        says("NoSuchElementException: no such MARK");
        dueOutside("mark", 0, 3, NO_ELEMENT, mark -> x.letter(mark, 0, false));
        dueOutside("mark", 0, 3, NO_ELEMENT, mark -> x.letter(mark, 0, true));
        due("mark, though k is behind all", NO_ELEMENT, () -> x.letter(4, 99, false));
        says("k is below 0");
        due("k -1", NO_ELEMENT, () -> x.letter(0, -1, false));
        due("k -1 of sounds", NO_ELEMENT, () -> x.letter(3, -1, true));
        due("least k", NO_ELEMENT, () -> x.letter(0, -2147483648, false));
    }

    private static void used() {
        part("Promise 8: used");
        says("Of USE k (0 on, as they came) of a MARK: 0 the HALF, 1 from, 2 to.");
        MarkField x = of("lands 6;mark a 0;mark b 0;use 1 11 0 9999;use 0 3 8 9;use 1 0 9999 9999;use 1 5 7 7;");
        dueRow("use 0 of 1", new int[] {11, 0, 9999}, what -> x.used(1, 0, what));
        dueRow("use 1 of 1", new int[] {0, 9999, 9999}, what -> x.used(1, 1, what));
        dueRow("use 2 of 1", new int[] {5, 7, 7}, what -> x.used(1, 2, what));
        dueRow("use 0 of 0", new int[] {3, 8, 9}, what -> x.used(0, 0, what));
        MarkField full = of("lands 1;mark a 0;" + times("use 0 0 1 2;", 12));
        due("the twelfth", 2, () -> full.used(0, 11, 2));
        says("NoSuchElementException: no such MARK, USE");
        dueOutside("mark", 0, 1, NO_ELEMENT, mark -> x.used(mark, 0, 0));
        dueOutside("use", 0, 2, NO_ELEMENT, k -> x.used(1, k, 0));
        dueOutside("use of twelve", 0, 11, NO_ELEMENT, k -> full.used(0, k, 0));
        due("none", NO_ELEMENT, () -> of("lands 1;mark a 0;").used(0, 0, 0));
        says("another what");
        dueOutside("what", 0, 2, NO_ELEMENT, what -> x.used(1, 0, what));
    }

    private static void two() {
        part("Promise 9: two");
        says("Of two MARKS: 0 LIKENESS of letters, 1 of SOUNDS, 2 of NAMES");
        MarkField x = of("lands 1;reach 1;near 0 1;mark palto 0 0;mark balto 0 1;mark hw 0;mark wh 0 5;consent 0 2;");
        dueRow("0 and 1", new int[] {80, 100, 90, 1, 1, 1, 0}, what -> x.two(0, 1, what));
        dueRow("1 and 0", new int[] {80, 100, 90, 1, 1, 1, 0}, what -> x.two(1, 0, what));
        dueRow("2 and 3", new int[] {0, 100, 50, NONE, 0, 0, 0}, what -> x.two(2, 3, what));
        says("3 GOODS (steps;");
        due("one step", 1, () -> x.two(0, 1, 3));
        due("none", 0, () -> of("lands 1;mark a 0 9;mark b 0 9;").two(0, 1, 3));
        says("NONE: no way");
        due("no way", NONE, () -> x.two(0, 3, 3));
        due("no classes", NONE, () -> x.two(0, 2, 3));
        says("4 NEAR (1, 0)");
        due("near", 1, () -> x.two(0, 1, 4));
        due("not", 0, () -> x.two(0, 3, 4));
        says("5 ALIKE (1, 0)");
        due("alike", 1, () -> x.two(0, 1, 5));
        due("not", 0, () -> x.two(0, 2, 5));
        says("6 whether there is CONSENT (1, 0)");
        due("consent", 1, () -> x.two(2, 0, 6));
        due("none", 0, () -> x.two(0, 1, 6));
        says("NoSuchElementException: no such MARKS (unlike)");
        for (int k = 0; k < 4; k++) {
            int mark = k;
            due("with itself " + k, NO_ELEMENT, () -> x.two(mark, mark, 0));
        }
        dueOutside("mark", 0, 3, NO_ELEMENT, mark -> x.two(mark, 0, 0));
        dueOutside("other", 0, 3, NO_ELEMENT, mark -> x.two(0, mark, 0));
        due("both", NO_ELEMENT, () -> x.two(4, 5, 0));
        says("another what");
        dueOutside("what", 0, 6, NO_ELEMENT, what -> x.two(0, 1, what));
    }

    private static void steps() {
        part("Promise 10: steps");
        says("Steps between two CLASSES;");
        MarkField x = of("lands 1;near 0 1;near 1 2;near 2 3;near 3 4;near 4 5;near 5 6;near 6 7;near 7 8;near 8 9;");
        for (int k = 0; k < 10; k++) {
            int c = k;
            due("from 0 to " + k, k, () -> x.steps(0, c));
            due("from " + k + " to 0", k, () -> x.steps(c, 0));
            due("from " + k + " to itself", 0, () -> x.steps(c, c));
        }
        x.near(0, 9, true);
        due("the shorter way", 4, () -> x.steps(0, 6));
        says("NONE: no way.");
        due("no way", NONE, () -> new MarkField().steps(0, 9));
        x.near(0, 9, false);
        x.near(4, 5, false);
        due("4 and 5", NONE, () -> x.steps(4, 5));
        due("9 and 0", NONE, () -> x.steps(9, 0));
        says("NoSuchElementException: no such CLASSES.");
        dueOutside("one", 0, 9, NO_ELEMENT, c -> x.steps(c, 0));
        dueOutside("other", 0, 9, NO_ELEMENT, c -> x.steps(0, c));
        due("both alike", NO_ELEMENT, () -> x.steps(10, 10));
        due("both alike", NO_ELEMENT, () -> x.steps(-1, -1));
    }

    // ---- who stands where

    private static void here() {
        part("Promise 11: here");
        says("Of a MARK in a HALF on a day: 0 SINCE, 1 PRIORITY");
        MarkField x = of("lands 6;lapse 0;room 9;mark abc 20 0;mark abc 10 0;mark abc 10 0;use 0 11 5 30;");
        dueRow("0 in 11 on 4", new int[] {NONE, NONE, NONE, 0}, what -> x.here(0, 11, 4, what));
        dueRow("0 in 11 on 5", new int[] {5, 5, NONE, 1}, what -> x.here(0, 11, 5, what));
        dueRow("0 in 11 on 30", new int[] {5, 5, NONE, 1}, what -> x.here(0, 11, 30, what));
        dueRow("0 in 11 on 31", new int[] {NONE, 20, 1, 0}, what -> x.here(0, 11, 31, what));
        dueRow("0 in 0 on 9999", new int[] {NONE, 20, 1, 0}, what -> x.here(0, 0, 9999, what));
        says("2 the SENIOR MARK that HOLDS and for which it is REFUSED there (the most SENIOR one) (NONE: none)");
        due("of two that hold the lesser number", NONE, () -> x.here(1, 0, 40, 2));
        x.consent(1, 2, true);
        due("both hold, the most senior one", 1, () -> x.here(0, 0, 40, 2));
        x.use(2, 0, 9, 50);
        due("by use", 2, () -> x.here(0, 0, 40, 2));
        due("which 1 is not refused for", NONE, () -> x.here(1, 0, 40, 2));
        // Mark 0 refuses mark 1; mark 2 is alike to 1 alone and holds.
        MarkField y = of("lands 1;mark abc 1 0;mark abc 2 0 1;mark abc 3 1;");
        due("a senior one that doesn't hold", NONE, () -> y.here(2, 0, 3, 2));
        due("without priority", NONE, () -> y.here(1, 0, 1, 2));
        says("3 whether it HOLDS (1, 0)");
        dueRow("holds on 3", new int[] {1, 0, 1}, mark -> y.here(mark, 0, 3, 3));
        dueRow("holds on 0", new int[] {0, 0, 0}, mark -> y.here(mark, 1, 0, 3));
        says("NoSuchElementException: no such MARK, HALF, another what.");
        dueOutside("mark", 0, 2, NO_ELEMENT, mark -> x.here(mark, 0, 0, 0));
        dueOutside("half", 0, 11, NO_ELEMENT, half -> x.here(0, half, 0, 0));
        dueOutside("half of one land", 0, 1, NO_ELEMENT, half -> y.here(0, half, 0, 0));
        dueOutside("what", 0, 3, NO_ELEMENT, what -> x.here(0, 0, 0, what));
        says("IllegalArgumentException (behind that): no such day.");
        for (int k = 0; k < 4; k++) {
            int what = k;
            dueOutside("day of " + k, 0, 9999, NO_ARGUMENT, day -> x.here(0, 0, day, what));
        }
        dueElementFirst("mark", day -> x.here(3, 0, day, 0));
        dueElementFirst("half", day -> x.here(0, 12, day, 0));
        dueElementFirst("what", day -> x.here(0, 0, day, 4));
    }

    private static void halves() {
        part("Promise 12: halves");
        says("HALVES of a MARK on a day (bits): 0 where it has PRIORITY, 1 where it HOLDS, 2 where it is REFUSED.");
        MarkField x = of("lands 6;lapse 0;mark abc 10 0;mark abc 20 0;use 1 0 5 30;use 1 11 5 30;");
        dueRow("1 on 4", new int[] {0, 0, 0}, what -> x.halves(1, 4, what));
        dueRow("1 on 5", new int[] {2049, 2049, 0}, what -> x.halves(1, 5, what));
        dueRow("0 on 10", new int[] {4095, 2046, 2049}, what -> x.halves(0, 10, what));
        dueRow("1 on 20", new int[] {4095, 2049, 2046}, what -> x.halves(1, 20, what));
        dueRow("1 on 31", new int[] {4095, 0, 4095}, what -> x.halves(1, 31, what));
        dueRow("0 on 9999", new int[] {4095, 4095, 0}, what -> x.halves(0, 9999, what));
        says("NoSuchElementException: no such MARK, another what.");
        dueOutside("mark", 0, 1, NO_ELEMENT, mark -> x.halves(mark, 0, 0));
        dueOutside("what", 0, 2, NO_ELEMENT, what -> x.halves(0, 0, what));
        says("IllegalArgumentException (behind that): no such day.");
        for (int k = 0; k < 3; k++) {
            int what = k;
            dueOutside("day of " + k, 0, 9999, NO_ARGUMENT, day -> x.halves(0, day, what));
        }
        dueElementFirst("mark", day -> x.halves(2, day, 0));
        dueElementFirst("what", day -> x.halves(0, day, 3));
    }

    private static void holders() {
        part("Promise 13: holders");
        says("MARKS that HOLD a HALF on a day (bits).");
        MarkField x = of("lands 6;" + times("mark abc 0;", 11) + "mark abc 9999;use 11 11 5 5;");
        due("eleven", 2047, () -> x.holders(0, 0));
        due("twelve by use", 4095, () -> x.holders(11, 5));
        due("not in another half", 2047, () -> x.holders(10, 5));
        due("twelve by filing", 4095, () -> x.holders(0, 9999));
        due("all alike", 1, () -> of(TWELVE_ALIKE).holders(11, 7));
        due("ahead of all", 0, () -> of(TWELVE_ALIKE).holders(11, 6));
        due("no marks", 0, () -> new MarkField().holders(0, 0));
        says("NoSuchElementException: no such HALF.");
        dueOutside("half", 0, 11, NO_ELEMENT, half -> x.holders(half, 0));
        dueOutside("half of a new object", 0, 1, NO_ELEMENT, half -> new MarkField().holders(half, 0));
        says("IllegalArgumentException (behind that): no such day.");
        dueOutside("day", 0, 9999, NO_ARGUMENT, day -> x.holders(0, day));
        dueElementFirst("half", day -> x.holders(12, day));
    }

    private static void shared() {
        part("Promise 14: shared");
        says("LANDS of which on a day two MARKS that are ALIKE HOLD one HALF each, and neither the other one's (bits).");
        String two = "lands 6;lapse 0;mark abc 9999 0;mark abc 9999 0;";
        MarkField x = of(two + "use 0 0 1 9;use 1 1 1 9;use 1 10 3 9;use 0 11 3 8;");
        int[] lands = {0, 1, 1, 33, 33, 33, 33, 33, 33, 1, 0};
        dueRow("day", lands, day -> x.shared(day));
        due("filed both", 0, () -> x.shared(9999));
        due("one half alone", 0, () -> of(two + "use 0 0 1 9;").shared(5));
        due("the same half", 0, () -> of(two + "use 0 0 1 9;use 1 0 1 9;").shared(5));
        due("one holds both", 0, () -> of(two + "use 0 0 1 9;use 0 1 1 9;use 1 1 2 9;").shared(5));
        due("the other one holds both, by consent", 0,
                () -> of(two + "use 0 0 1 9;use 1 0 1 9;use 1 1 1 9;consent 0 1;").shared(5));
        due("alike with consent", 1, () -> of(two + "use 0 0 1 9;use 1 1 1 9;consent 0 1;").shared(5));
        due("not alike", 0, () -> of("lands 1;mark abc 99 0;mark abc 99 1;use 0 0 1 9;use 1 1 1 9;").shared(5));
        due("no marks", 0, () -> new MarkField().shared(0));
        says("IllegalArgumentException: no such day.");
        dueOutside("day", 0, 9999, NO_ARGUMENT, day -> x.shared(day));
        due("day of a new object", NO_ARGUMENT, () -> new MarkField().shared(-1));
    }

    private static void refused() {
        part("Promise 15: refused");
        says("MARKS that are REFUSED all over on a day (bits; what 0)");
        MarkField x = of(TWELVE_ALIKE);
        due("all but the first", 4094, () -> x.refused(7, 0));
        due("ahead of all", 0, () -> x.refused(6, 0));
        x.use(11, 11, 0, 7);
        due("one holds a half", 2046, () -> x.refused(7, 0));
        says("the one FILED first of them (of like ones the lesser number; 1;");
        due("of like ones", 1, () -> x.refused(7, 1));
        MarkField y = of("lands 1;room 9;mark abc 0 0;mark abc 9 0;mark abc 8 0;mark abc 8 0;mark abc 9999 0;use 4 0 1 1;");
        due("filed first", 2, () -> y.refused(9, 1));
        due("the only one, filed behind that day", 4, () -> y.refused(7, 1));
        due("mark 0", 0, () -> of("lands 1;mark abc 9 0;mark abc 8 0;").refused(9, 1));
        says("NONE: none).");
        due("none on day 6", NONE, () -> x.refused(6, 1));
        due("no marks", NONE, () -> new MarkField().refused(9999, 1));
        says("NoSuchElementException: another what.");
        dueOutside("what", 0, 1, NO_ELEMENT, what -> x.refused(0, what));
        says("IllegalArgumentException (behind that): no such day.");
        dueOutside("day of 0", 0, 9999, NO_ARGUMENT, day -> x.refused(day, 0));
        dueOutside("day of 1", 0, 9999, NO_ARGUMENT, day -> x.refused(day, 1));
        dueElementFirst("what", day -> x.refused(day, 2));
    }

    /** In half 0 mark 0 is senior by use till a day, and mark 1 by filing from then on. */
    private static MarkField seniorTill(int day) {
        return of("lands 1;ear 0;lapse 30;mark rrrr 9000 0;mark rrrt 8000 0;use 0 0 0 " + (day - 30) + ";");
    }

    /** Each of twelve marks, all alike, uses half 11 for some days; there is no day till 1443 that none does. */
    private static MarkField manyInTurn() {
        MarkField x = of("lands 6;like 0;crowd 0;lapse 0;" + times("mark abc 9999 0;", 12));
        for (int k = 0; k < 144; k++) {
            x.use(k / 12, 11, 10 * k, 10 * k + 13);
        }
        return x;
    }

    private static void firstDay() {
        part("Promise 16: firstDay");
        says("The first day on which a MARK HOLDS a HALF;");
        MarkField x = of("lands 6;lapse 2;mark abc 100 0;mark abc 9999 0;use 1 11 0 97;use 0 10 99 99;");
        due("day 0", 0, () -> x.firstDay(1, 11));
        due("by filing", 100, () -> x.firstDay(0, 11));
        due("by use", 99, () -> x.firstDay(0, 10));
        MarkField longer = of("lands 1;mark abc 9999 0;use 0 0 40 50;");
        due("the first day of a longer use", 40, () -> longer.firstDay(0, 0));
        x.use(1, 11, 100, 120);
        due("when the other one has lapsed", 123, () -> x.firstDay(0, 11));
        due("the last day", 9999, () -> of("lands 1;mark a 9999;").firstDay(0, 1));
        due("when 0 is no more senior", 9999, () -> seniorTill(9998).firstDay(1, 0));
        due("behind many others", 1324, () -> manyInTurn().firstDay(11, 11));
        says("NONE: none.");
        due("it would be on day 10000", NONE, () -> seniorTill(9999).firstDay(1, 0));
        due("never", NONE, () -> of("lands 1;mark abc 0 0;mark abc 0 0;").firstDay(1, 0));
        due("filed on the last day, refused", NONE, () -> of("lands 1;mark abc 9999 0;mark abc 9999 0;").firstDay(1, 0));
        says("NoSuchElementException: no such MARK, HALF.");
        dueOutside("mark", 0, 1, NO_ELEMENT, mark -> x.firstDay(mark, 0));
        dueOutside("half", 0, 11, NO_ELEMENT, half -> x.firstDay(0, half));
        due("no marks", NO_ELEMENT, () -> new MarkField().firstDay(0, 0));
    }

    // ---- what would be

    private static int would(MarkField x, String name, int classes, int day, int what) {
        return x.would(put(x, name), classes, day, what);
    }

    private static void would() {
        part("Promise 17: would");
        says("Were a NAME (of the tape's first n bytes; it is empty then)");
        MarkField x = of("lands 6;lapse 0;room 9;mark abc 50 0;mark abc 40 0;use 0 11 10 20;use 1 0 15 30;");
        put(x, "abcrtmfl");
        due("abc", 2, () -> x.would(3, 1, 0, 2));
        due("the tape is empty", 0, () -> x.count(12));
        put(x, "abcrtmfl");
        due("abcrtmfl", 0, () -> x.would(8, 1, 0, 2));
        due("the tape is empty", 0, () -> x.count(12));
        due("ten letters", 0, () -> would(x, "abcdefghij", 1, 0, 2));
        due("one letter", 0, () -> would(x, "z", 1, 0, 2));
        says("FILED on a day for CLASSES (bits), behind all others");
        due("on day 40 behind 1", 1, () -> would(x, "abc", 1, 40, 1));
        due("ahead of both", NONE, () -> would(x, "abc", 1, 9, 1));
        due("of other classes", NONE, () -> would(x, "abc", 1022, 9999, 1));
        due("of no classes", 4095, () -> would(x, "abc", 0, 9999, 0));
        due("of all", 0, () -> would(x, "abc", 1023, 9999, 0));
        MarkField full = of(TWELVE_ALIKE);
        due("of twelve the first one", 0, () -> would(full, "abc", 1, 7, 1));
        due("ahead of twelve", 4095, () -> would(full, "abc", 1, 6, 0));
        due("field of twelve", 12, () -> would(full, "abc", 1, 0, 2));
        due("never free of twelve", NONE, () -> would(full, "abc", 1, 7, 3));
        due("a 13th of ten letters", 4095, () -> would(full, "abcdefghij", 1, 7, 0));
        due("a 13th of twenty sounds", 7, () -> would(full, "xxxxxxxxxx", 1, 7, 3));
        due("twelve as before", 12, () -> full.count(2));
        says("HALVES that it would HOLD on that day (bits; what 0)");
        due("all", 4095, () -> would(x, "abc", 1, 9, 0));
        due("all but 11", 2047, () -> would(x, "abc", 1, 10, 0));
        due("all but 0 and 11", 2046, () -> would(x, "abc", 1, 20, 0));
        due("all but 0", 4094, () -> would(x, "abc", 1, 30, 0));
        due("none", 0, () -> would(x, "abc", 1, 40, 0));
        says("the least MARK for which it would be REFUSED in some HALF (as here() tells; NONE: none; 1)");
        due("none", NONE, () -> would(x, "abc", 1, 9, 1));
        due("0 in half 11", 0, () -> would(x, "abc", 1, 10, 1));
        due("the lesser one of both", 0, () -> would(x, "abc", 1, 20, 1));
        due("1 in half 0", 1, () -> would(x, "abc", 1, 21, 1));
        MarkField turned = of("lands 6;mark abc 9999 0;mark abc 9999 0;use 0 0 5 5;use 1 11 5 5;");
        due("the lesser one in the first half", 0, () -> would(turned, "abc", 1, 5, 1));
        turned.use(0, 5, 5, 5);
        turned.use(1, 0, 4, 4);
        due("the lesser one in the middle", 0, () -> would(turned, "abc", 1, 5, 1));
        due("1, for 0 is refused all over", 1, () -> would(x, "abc", 1, 50, 1));
        MarkField senior = of("lands 1;room 9;mark abc 9 0;mark abc 8 0;consent 0 1;");
        due("as here() tells: the most senior one alone", 1, () -> would(senior, "abc", 1, 9, 1));
        says("its FIELD (2)");
        due("two", 2, () -> would(x, "abc", 1, 9999, 2));
        due("none", 0, () -> would(x, "abc", 2, 9999, 2));
        due("of a new object", 0, () -> would(new MarkField(), "abc", 1, 0, 2));
        says("the first day from that one on, as day to be FILED on, on which (that day) it would HOLD all HALVES (NONE: "
                + "none; 3)");
        due("that day", 9, () -> would(x, "abc", 1, 9, 3));
        due("day 0", 0, () -> would(x, "abc", 1, 0, 3));
        due("when uses have lapsed", 31, () -> would(x, "abc", 1, 10, 3));
        due("the last such day", 39, () -> would(x, "abc", 1, 39, 3));
        due("none", NONE, () -> would(x, "abc", 1, 40, 3));
        due("the last day", 9999, () -> would(x, "abc", 2, 9999, 3));
        MarkField late = of("lands 1;lapse 0;mark abc 9999 0;use 0 1 5 9997;");
        due("a day ahead of the last one", 9998, () -> would(late, "abc", 1, 5, 3));
        due("none on the last one", NONE, () -> would(late, "abc", 1, 9999, 3));
        due("when the one alike to it is refused", 9999, () -> would(seniorTill(9998), "trrr", 1, 0, 3));
        due("it would be free on day 10000", NONE, () -> would(seniorTill(9999), "trrr", 1, 0, 3));
        due("behind many others", 1444, () -> would(manyInTurn(), "abc", 1, 0, 3));
        for (int k = 0; k < 144; k++) {
            int one = k / 12;
            int other = k % 12;
            MarkField uses = of("lands 6;lapse 0;mark abc 9999 0;use 0 " + one + " 10 20;use 0 " + other + " 15 30;");
            due("when " + one + " and " + other + " have lapsed", 31, () -> would(uses, "abc", 1, 10, 3));
        }
        // One that is refused itself is no bar: the second one for the first, so the new one is free.
        MarkField chain = of("lands 1;mark abc 1 0;mark abc 2 0 1;");
        due("alike to the second alone", 3, () -> would(chain, "abc", 2, 5, 0));
        due("refused for none", NONE, () -> would(chain, "abc", 2, 5, 1));
        due("field of one", 1, () -> would(chain, "abc", 2, 5, 2));
        due("free at once", 5, () -> would(chain, "abc", 2, 5, 3));
        // Were it there, all would be crowded: what is alike then is told with it.
        MarkField crowd = of("lands 1;like 80;crowd 20;room 1;mark palto 0 0;mark balto 0 0;");
        due("in a crowd", 3, () -> would(crowd, "balta", 1, 5, 0));
        due("of two", 2, () -> would(crowd, "balta", 1, 5, 2));
        due("but not with the same name", 0, () -> would(crowd, "palto", 1, 5, 0));
        due("nothing has come of it", 1, () -> crowd.two(0, 1, 5));
        crowd.rule(1, 0);
        due("nor in no crowd", 0, () -> would(crowd, "balta", 1, 5, 0));
    }

    private static void wouldNot() {
        MarkField x = of("lands 1;mark abc 5 0;mark b 5 0;");
        says("HIDDEN: the bytes are no NAME.");
        String[] none = {"", " ", "abc ", " abc", "a b", "ABC", "ab1", "abcdefghijk", "a\n", "a;", "ab" + (char) 225,
            "`", "{", "a" + (char) 0};
        for (String name : none) {
            for (int what = 0; what < 4; what++) {
                int asked = what;
                due("no name: " + name, HIDDEN, () -> would(x, name, 1, 0, asked));
                due("the tape is empty", 0, () -> x.count(12));
            }
        }
        says("NoSuchElementException (ahead of all, the tape stays): another what.");
        put(x, "abc");
        dueUnchanged("what 4", x, NO_ELEMENT, () -> x.would(3, 1, 0, 4));
        dueOutside("what", 0, 3, NO_ELEMENT, what -> x.would(3, 1, 0, what));
        dueOutside("what ahead of all", 0, 3, NO_ELEMENT, what -> x.would(-1, -1, -1, what));
        dueOutside("what ahead of no name", 0, 3, NO_ELEMENT, what -> x.would(0, 1, 0, what));
        due("the tape stays", 20, () -> x.count(12));
        says("IllegalArgumentException (behind that, the tape stays): no such CLASSES, day, the tape has not so many, "
                + "n below 0.");
        dueUnchanged("classes 1024", x, NO_ARGUMENT, () -> x.would(3, 1024, 0, 0));
        for (int k = 0; k < 4; k++) {
            int what = k;
            dueOutside("classes", 0, 1023, NO_ARGUMENT, classes -> x.would(3, classes, 0, what));
            dueOutside("day", 0, 9999, NO_ARGUMENT, day -> x.would(3, 1, day, what));
            dueOutside("n", 0, 20, NO_ARGUMENT, n -> x.would(n, 1, 0, what));
        }
        due("classes ahead of no name", NO_ARGUMENT, () -> x.would(0, 1024, 0, 0));
        due("the tape stays", 20, () -> x.count(12));
        due("with its name", 1, () -> x.would(3, 1, 0, 2));
        due("n of an empty tape", NO_ARGUMENT, () -> x.would(1, 1, 0, 0));
    }

    private static int free(MarkField x, String name, int day) {
        return x.free(put(x, name), day);
    }

    private static void free() {
        part("Promise 18: free");
        says("CLASSES (bits) for which alone such a NAME would HOLD all HALVES on a day.");
        for (int half = 0; half < 12; half++) {
            MarkField inOne = of("lands 6;mark abc 9999 0;use 0 " + half + " 10 10;");
            due("used in half " + half + " alone", 1022, () -> free(inOne, "abc", 10));
        }
        MarkField x = of("lands 6;lapse 0;reach 1;near 4 5;mark abc 50 0 9;mark abc 60 5;use 1 11 10 20;");
        due("ahead of all", 1023, () -> free(x, "abc", 9));
        due("by use in one half", 1023 - 16 - 32, () -> free(x, "abc", 10));
        due("lapsed", 1023, () -> free(x, "abc", 21));
        due("filed", 1023 - 1 - 512, () -> free(x, "abc", 50));
        due("both filed", 1023 - 1 - 16 - 32 - 512, () -> free(x, "abc", 9999));
        due("another name", 1023, () -> free(x, "zzz", 9999));
        due("no marks", 1023, () -> free(new MarkField(), "abc", 0));
        due("one that is refused is no bar", 1022, () -> free(of("lands 1;mark abc 1 0;mark abc 2 0 1;"), "abc", 5));
        due("none is free", 0, () -> free(of("lands 1;mark abc 0 0 1 2 3 4 5 6 7 8 9;"), "abc", 0));
        MarkField full = of(TWELVE_ALIKE);
        due("twelve are no bar", 1022, () -> free(full, "abc", 7));
        due("first bytes alone", 1023, () -> x.free(put(x, "zabc") - 3, 9999));
        due("the tape is empty", 0, () -> x.count(12));
        due("the register is as before", 2, () -> x.count(2));
        says("HIDDEN, IllegalArgumentException: likewise.");
        String[] none = {"", "abc ", " abc", "ABC", "ab1", "abcdefghijk"};
        for (String name : none) {
            due("no name: " + name, HIDDEN, () -> free(x, name, 0));
            due("the tape is empty", 0, () -> x.count(12));
        }
        put(x, "abc");
        dueUnchanged("day 10000", x, NO_ARGUMENT, () -> x.free(3, 10000));
        dueOutside("day", 0, 9999, NO_ARGUMENT, day -> x.free(3, day));
        dueOutside("day ahead of no name", 0, 9999, NO_ARGUMENT, day -> x.free(0, day));
        dueOutside("n", 0, 20, NO_ARGUMENT, n -> x.free(n, 0));
        due("the tape stays", 20, () -> x.count(12));
        due("with its name", 1023, () -> x.free(3, 0));
    }

    private static void letterFor() {
        part("Promise 19: letterFor");
        says("The first one letter of a MARK's NAME that could be another one (26 times its place and that letter's number, "
                + "0 to 25; the least)");
        due("a at place 0", 0, () -> of("lands 1;ear 0;like 51;mark mm 1 0;mark mm 2 0;").letterFor(1, 2));
        due("of mark 0", 0, () -> of("lands 1;ear 0;like 51;mark mm 2 0;mark mm 1 0;").letterFor(0, 2));
        due("of the last one of twelve", 0, () -> of("lands 1;ear 0;like 51;" + times("mark mm 1 0;", 12)).letterFor(11, 1));
        // Any letter leaves one place like rr; with a z it is like zz, too, and so in a crowd.
        String crowd = "lands 1;ear 0;crowd 1;room 1;";
        due("z at place 0", 25, () -> of(crowd + "like 50;mark rr 1 0;mark zz 2 0;mark rr 3 0;").letterFor(2, 3));
        // Only with its last letter a z it is as like to the second as to the first.
        String ten = "like 90;mark afghkrstwx 1 0;mark fghkrstwz 2 0;mark afghkrstwx 3 0;";
        due("z at place 9", 259, () -> of(crowd + ten).letterFor(2, 3));
        // b and p sound alike, and so do vowels: at place 0 a b is the first one that is not heard as a.
        due("the least of many", 1, () -> of("lands 1;ear 100;like 100;mark apt 1 0;mark apt 2 0;").letterFor(1, 2));
        due("the first place of many", 1, () -> of("lands 1;ear 100;like 100;mark amt 1 0;mark amt 2 0;").letterFor(1, 2));
        says("so that it would HOLD all HALVES where it has PRIORITY on a day");
        // An a makes it free in half 0, but like the one of half 1.
        String halves = "lands 1;ear 0;like 67;lapse 0;mark rrr 9999 0;mark arr 9999 0;use 0 0 1 20;use 1 1 1 20;";
        due("in both halves", 1, () -> of(halves + "mark rrr 9 0;").letterFor(2, 9));
        due("in one alone", 0, () -> of(halves + "mark rrr 99 0;use 2 0 9 9;").letterFor(2, 9));
        String other = "lands 1;ear 0;like 67;lapse 0;mark rrr 9999 0;use 0 1 1 20;mark rrr 99 0;use 1 1 9 9;";
        due("in half 1 alone", 0, () -> of(other).letterFor(1, 9));
        // Free of the first one, it is like the second, which is refused for the third.
        due("one that is refused is no bar", 0,
                () -> of("lands 1;ear 0;like 67;mark rrr 1 0;mark arr 3 1 2;mark arr 2 2;mark rrr 4 0 1;").letterFor(3, 4));
        due("in the other alone it holds", NONE, () -> of(halves + "mark rrr 99 0;use 2 1 9 9;").letterFor(2, 9));
        says("(NONE: none such; also if it HOLDS these now)");
        MarkField x = of("lands 1;ear 0;like 50;mark mm 1 0;mark mm 2 0;");
        due("none such", NONE, () -> x.letterFor(1, 2));
        due("holds these now", NONE, () -> x.letterFor(0, 2));
        due("no priority", NONE, () -> x.letterFor(1, 1));
        due("any letter is alike", NONE, () -> of("lands 1;like 0;mark m 1 0;mark m 2 0;").letterFor(1, 2));
        dueUnchanged("asked once more", x, NONE, () -> x.letterFor(1, 9999));
        says("NoSuchElementException: no such MARK.");
        dueOutside("mark", 0, 1, NO_ELEMENT, mark -> x.letterFor(mark, 0));
        says("IllegalArgumentException (behind that): no such day.");
        dueOutside("day", 0, 9999, NO_ARGUMENT, day -> x.letterFor(0, day));
        dueOutside("day of the other", 0, 9999, NO_ARGUMENT, day -> x.letterFor(1, day));
        dueElementFirst("mark", day -> x.letterFor(2, day));
    }

    // ---- groups and ranks

    /** Of twelve marks, each filed behind the one before, each is alike to the one before and to that behind it. */
    private static MarkField chainOfTwelve() {
        StringBuilder text = new StringBuilder("lands 1;ear 0;like 85;crowd 0;");
        for (int k = 0; k < 11; k++) {
            text.append("mark ").append(times("t", k)).append(times("r", 10 - k)).append(" ").append(k).append(" 0;");
        }
        return of(text + "mark m" + times("t", 9) + " 11 0;");
    }

    private static void chains() {
        MarkField x = chainOfTwelve();
        due("couples in a chain", 11, () -> x.count(13));
        for (int m = 0; m < 12; m++) {
            int mark = m;
            due("the whole chain from " + m, 4095, () -> x.group(mark));
            due("every second one holds, from 0 on: " + m, 1 - m % 2, () -> x.here(mark, 0, 50, 3));
            due("the others are refused for the one before: " + m, m % 2 == 0 ? NONE : m - 1,
                    () -> x.here(mark, 1, 50, 2));
            due("halves of " + m, m % 2 == 0 ? 3 : 0, () -> x.halves(mark, 50, 1));
            due("first day of " + m, m % 2 == 0 ? m : NONE, () -> x.firstDay(mark, 0));
        }
        due("a 13th behind the 12th, that is refused", 3, () -> would(x, "mm" + times("t", 8), 1, 50, 0));
        due("at once", 50, () -> would(x, "mm" + times("t", 8), 1, 50, 3));
        x.drop(0);
        due("a 12th behind the 11th, that holds now", 0, () -> would(x, "mm" + times("t", 8), 1, 50, 0));
        due("refused for it", 10, () -> would(x, "mm" + times("t", 8), 1, 50, 1));
        x.drop(4);
        due("what is left ahead of the gap", 15, () -> x.group(0));
        due("what is left behind it", 1008, () -> x.group(9));
    }

    private static void group() {
        part("Promise 20: group");
        says("MARKS that are ALIKE to a MARK, or to such a one, and so on, itself, too (bits).");
        // A chain of ten by classes that two neighbours in it share; its ends are far apart.
        StringBuilder chain = new StringBuilder("lands 1;");
        for (int k = 0; k < 10; k++) {
            chain.append("mark abc 0 ").append(k).append(k < 9 ? " " + (k + 1) : "").append(';');
        }
        MarkField x = of(chain + "mark abc 0;mark zzz 0 0;");
        for (int k = 0; k < 10; k++) {
            int mark = k;
            due("group of " + k, 1023, () -> x.group(mark));
        }
        due("alone, of no classes", 1024, () -> x.group(10));
        due("alone, of another name", 2048, () -> x.group(11));
        due("the ends are not alike", 0, () -> x.two(0, 9, 5));
        x.consent(0, 1, true);
        due("alike with consent", 1023, () -> x.group(0));
        due("all twelve", 4095, () -> of(TWELVE_ALIKE).group(11));
        due("one mark", 1, () -> of("lands 1;mark a 0;").group(0));
        chains();
        says("NoSuchElementException: no such MARK.");
        dueOutside("mark", 0, 11, NO_ELEMENT, mark -> x.group(mark));
        due("no marks", NO_ELEMENT, () -> new MarkField().group(0));
    }

    private static void ranked() {
        part("Promise 21: ranked");
        says("MARKS from the most SENIOR one on in a HALF on a day: the k-th (0 on) of those with PRIORITY.");
        MarkField x = of("lands 6;lapse 0;mark a 20;mark b 10;mark c 20;mark d 9999;use 2 11 5 30;use 3 0 10 25;");
        dueRow("half 0 on 20", new int[] {1, 3, 0, 2}, k -> x.ranked(0, 20, k));
        dueRow("half 11 on 20", new int[] {2, 1, 0}, k -> x.ranked(11, 20, k));
        dueRow("half 1 on 19", new int[] {1}, k -> x.ranked(1, 19, k));
        dueRow("half 1 on 9999", new int[] {1, 0, 2, 3}, k -> x.ranked(1, 9999, k));
        MarkField full = of(TWELVE_ALIKE);
        dueRow("refused ones, too", new int[] {0, 1, 2, 3, 4, 5, 6, 7, 8, 9, 10, 11}, k -> full.ranked(11, 7, k));
        says("NoSuchElementException: there is none such");
        dueOutside("k of four", 0, 3, NO_ELEMENT, k -> x.ranked(0, 20, k));
        dueOutside("k of three", 0, 2, NO_ELEMENT, k -> x.ranked(11, 20, k));
        dueOutside("k of none", 0, -1, NO_ELEMENT, k -> x.ranked(1, 0, k));
        dueOutside("k of twelve", 0, 11, NO_ELEMENT, k -> full.ranked(0, 9999, k));
        says("no such HALF");
        dueOutside("half", 0, 11, NO_ELEMENT, half -> x.ranked(half, 20, 0));
        says("IllegalArgumentException (behind the HALF, ahead of the other): no such day.");
        dueOutside("day", 0, 9999, NO_ARGUMENT, day -> x.ranked(0, day, 0));
        dueElementFirst("half", day -> x.ranked(12, day, 0));
        for (int day : DAYS_OUTSIDE) {
            dueOutside("day ahead of k", 0, 3, NO_ARGUMENT, k -> x.ranked(0, day, k));
        }
    }

    public static void main(String[] args) {
        count();
        mark();
        letter();
        used();
        two();
        steps();
        here();
        halves();
        holders();
        shared();
        refused();
        firstDay();
        would();
        wouldNot();
        free();
        letterFor();
        group();
        ranked();
        endOfPromises(5, 6, 7, 8, 9, 10, 11, 12, 13, 14, 15, 16, 17, 18, 19, 20, 21);
    }
}
