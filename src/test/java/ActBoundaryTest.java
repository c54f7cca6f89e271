/** Each sentence of the promises about acts, undoing them and images: 22 to 30. */
public final class ActBoundaryTest extends Boundaries {
    private static final String TWELVE = "lands 1;" + times("mark a 0;", 12);

    private static int file(MarkField x, String name, int classes, int day) {
        return x.file(put(x, name), classes, day);
    }

    /** The act is kept: one more can be undone, and behind that all is as ahead of it. */
    private static void dueAct(String what, MarkField x, int want, Call act) {
        String before = seen(x);
        int acts = x.count(11);
        due(what, want, act);
        due(what + " is kept", acts + 1, () -> x.count(11));
        due(what + " is undone", acts, () -> x.undo());
        due(what + " leaves nothing behind", 1, () -> bit(seen(x).equals(before)));
        due(what + " again", want, act);
    }

    // ---- acts

    private static void file() {
        part("Promise 22: file");
        says("An ACT: a MARK is FILED behind all others, with no USES");
        MarkField x = of("lands 1;mark abc 5 0;use 0 0 1 2;");
        put(x, "abc");
        due("its number", 1, () -> x.file(3, 513, 9999));
        due("filed", 9999, () -> x.mark(1, 0));
        due("classes", 513, () -> x.mark(1, 1));
        due("no uses", 0, () -> x.mark(1, 2));
        due("no consent", 0, () -> x.count(4));
        due("one act", 1, () -> x.count(11));
        due("undone", 0, () -> x.undo());
        due("one mark", 1, () -> x.count(2));
        due("on day 0, of no classes", 1, () -> file(x, "a", 0, 0));
        due("of all classes", 2, () -> file(x, "a", 1023, 0));
        due("which are these", 1023, () -> x.mark(2, 1));
        // One that comes in the place of one that was dropped has nothing of it.
        MarkField again = of("lands 1;mark a 0;mark b 0;use 1 0 1 2;consent 0 1;");
        again.drop(1);
        due("in the place of another one", 1, () -> file(again, "c", 0, 0));
        due("without its uses", 0, () -> again.mark(1, 2));
        due("without its consents", 0, () -> again.two(0, 1, 6));
        says("with a NAME of the tape's first n bytes (it is empty then): its number.");
        MarkField y = new MarkField();
        put(y, "abcdefghijklm");
        due("one letter", 0, () -> y.file(1, 0, 0));
        due("the tape is empty", 0, () -> y.count(12));
        due("it has one", 1, () -> y.mark(0, 3));
        put(y, "abcdefghijklm");
        due("ten letters", 1, () -> y.file(10, 0, 0));
        due("the last one is j", 10, () -> y.letter(1, 9, false));
        due("and none behind", NONE, () -> y.letter(1, 10, false));
        for (int k = 2; k < 12; k++) {
            int number = k;
            due("number " + k, number, () -> file(y, "z", 0, 0));
        }
        says("NONE (nothing else changes): there are 12.");
        String before = seen(y);
        due("a 13th", NONE, () -> file(y, "z", 0, 0));
        due("the tape is empty", 0, () -> y.count(12));
        due("nothing else has changed", 1, () -> bit(seen(y).equals(before)));
        y.drop(0);
        due("room for one", 11, () -> file(y, "z", 0, 0));
        says("HIDDEN (ahead of that, nothing else changes): the bytes are no NAME.");
        due("ahead of that", HIDDEN, () -> file(y, "z1", 0, 0));
        String[] none = {"", " ", "abc ", " abc", "a b", "ABC", "ab1", "abcdefghijk", "a\n", "a;", "ab" + (char) 225,
            "`", "{", "a" + (char) 0};
        for (String name : none) {
            MarkField z = of("lands 1;mark abc 5 0;");
            z.rule(0, 50);
            String behind = seen(z);
            due("no name: " + name, HIDDEN, () -> file(z, name, 1, 0));
            due("nothing else has changed", 1, () -> bit(seen(z).equals(behind)));
        }
        says("IllegalArgumentException (ahead of all, and nothing changes): no such CLASSES, day, the tape has not so many, "
                + "n below 0.");
        MarkField w = of(TWELVE);
        w.rule(0, 50);
        dueUnchanged("an empty tape", w, NO_ARGUMENT, () -> w.file(1, 0, 0));
        put(w, "abc");
        dueOutside("classes, ahead of NONE", 0, 1023, NO_ARGUMENT, classes -> w.file(3, classes, 0));
        dueOutside("day, ahead of NONE", 0, 9999, NO_ARGUMENT, day -> w.file(3, 0, day));
        dueOutside("n, ahead of NONE", 0, 20, NO_ARGUMENT, n -> w.file(n, 0, 0));
        dueOutside("classes, ahead of HIDDEN", 0, 1023, NO_ARGUMENT, classes -> w.file(0, classes, 0));
        dueOutside("day, ahead of HIDDEN", 0, 9999, NO_ARGUMENT, day -> w.file(0, 0, day));
        due("the tape stays", 20, () -> w.count(12));
        due("one act", 1, () -> w.count(11));
        w.drop(0);
        due("its name is there", 11, () -> w.file(3, 0, 0));
    }

    private static void use() {
        part("Promise 23: use");
        says("An ACT: a MARK has one USE more: its number.");
        MarkField x = of("lands 6;mark a 9;mark b 9;use 1 0 3 4;");
        dueAct("a use", x, 1, () -> x.use(1, 11, 0, 9999));
        due("its half", 11, () -> x.used(1, 1, 0));
        due("from", 0, () -> x.used(1, 1, 1));
        due("to", 9999, () -> x.used(1, 1, 2));
        dueAct("on the last day", x, 0, () -> x.use(0, 0, 9999, 9999));
        dueAct("on the first day", x, 1, () -> x.use(0, 0, 0, 0));
        for (int k = 2; k < 12; k++) {
            int number = k;
            due("use " + k, number, () -> x.use(1, 0, 0, 0));
        }
        says("NONE (nothing changes): it has 12.");
        String twelve = "lands 6;mark a 9;mark b 9;" + times("use 1 0 3 4;", 12);
        MarkField full = of(twelve);
        full.rule(0, 1);
        dueUnchanged("a 13th", full, NONE, () -> full.use(1, 0, 0, 0));
        due("of the other one", 0, () -> full.use(0, 0, 0, 0));
        says("NoSuchElementException (ahead of that): no such MARK, HALF.");
        MarkField refusing = of(twelve);
        dueUnchanged("mark 2", refusing, NO_ELEMENT, () -> refusing.use(2, 0, 0, 0));
        dueUnchanged("half 12 of one that has 12", refusing, NO_ELEMENT, () -> refusing.use(1, 12, 0, 0));
        MarkField y = of("lands 1;mark a 0;");
        dueOutside("mark", 0, 0, NO_ELEMENT, mark -> y.use(mark, 0, 0, 0));
        dueOutside("half", 0, 1, NO_ELEMENT, half -> y.use(0, half, 0, 0));
        dueOutside("mark ahead of days", 0, 0, NO_ELEMENT, mark -> y.use(mark, 0, -1, 10000));
        dueOutside("half ahead of days", 0, 1, NO_ELEMENT, half -> y.use(0, half, 1, 0));
        says("IllegalArgumentException (behind that, ahead of NONE): no such days, to is ahead of from.");
        dueUnchanged("to ahead of from", y, NO_ARGUMENT, () -> y.use(0, 0, 1, 0));
        dueUnchanged("from -1", y, NO_ARGUMENT, () -> y.use(0, 0, -1, 0));
        dueUnchanged("to 10000", y, NO_ARGUMENT, () -> y.use(0, 0, 0, 10000));
        dueOutside("from", 0, 9999, NO_ARGUMENT, from -> y.use(0, 0, from, 9999));
        dueOutside("to", 0, 9999, NO_ARGUMENT, to -> y.use(0, 0, 0, to));
        dueOutside("both", 0, 9999, NO_ARGUMENT, day -> y.use(0, 0, day, day));
        due("no uses", 0, () -> y.mark(0, 2));
        due("ahead of NONE", NO_ARGUMENT, () -> full.use(1, 0, 5, 4));
        due("ahead of NONE", NO_ARGUMENT, () -> full.use(1, 0, 0, 10000));
        due("one day", 0, () -> y.use(0, 0, 5, 5));
    }

    private static void consent() {
        part("Promise 24: consent");
        says("An ACT: CONSENT between two MARKS is there (or is no more): whether it was.");
        MarkField x = of("lands 1;" + times("mark abc 0 0;", 3));
        dueAct("it is there", x, 0, () -> bit(x.consent(0, 2, true)));
        due("both ways", 2, () -> x.two(0, 2, 6) + x.two(2, 0, 6));
        dueAct("it was there", x, 1, () -> bit(x.consent(2, 0, true)));
        due("one couple", 1, () -> x.count(4));
        dueAct("it is no more", x, 1, () -> bit(x.consent(2, 0, false)));
        due("neither way", 0, () -> x.two(0, 2, 6) + x.two(2, 0, 6));
        dueAct("it was not", x, 0, () -> bit(x.consent(0, 2, false)));
        due("no couple", 0, () -> x.count(4));
        MarkField full = of(TWELVE);
        dueAct("the last two of twelve", full, 0, () -> bit(full.consent(11, 10, true)));
        says("NoSuchElementException: no such MARKS (unlike).");
        for (int k = 0; k < 3; k++) {
            int mark = k;
            due("with itself " + k, NO_ELEMENT, () -> bit(x.consent(mark, mark, true)));
        }
        dueUnchanged("with itself", x, NO_ELEMENT, () -> bit(x.consent(1, 1, false)));
        dueUnchanged("mark 3", x, NO_ELEMENT, () -> bit(x.consent(0, 3, true)));
        dueOutside("mark", 0, 2, NO_ELEMENT, mark -> bit(x.consent(mark, 0, true)));
        dueOutside("other", 0, 2, NO_ELEMENT, mark -> bit(x.consent(0, mark, true)));
        due("no marks", NO_ELEMENT, () -> bit(new MarkField().consent(0, 1, true)));
    }

    private static void drop() {
        part("Promise 25: drop");
        says("An ACT: a MARK is no more (those behind it have numbers less by 1): how many are left.");
        String three = "lands 2;mark aa 1 1;mark bbb 2 2;mark cccc 3 3;use 0 0 5 6;use 2 3 7 8;";
        MarkField x = of(three + "consent 0 2;consent 0 1;consent 1 2;");
        dueAct("the middle one", x, 2, () -> x.drop(1));
        due("the last one is 1", 1, () -> bit(nameOf(x, 1).equals("cccc")));
        due("its use", 7, () -> x.used(1, 0, 1));
        due("its consent", 1, () -> x.two(0, 1, 6));
        due("one consent", 1, () -> x.count(4));
        due("all else is as it was", 1, () -> bit(registerOf(x).equals(registerOf(
                of("lands 2;mark aa 1 1;mark cccc 3 3;use 0 0 5 6;use 1 3 7 8;consent 0 1;")))));
        MarkField y = of(three + "consent 1 2;");
        dueAct("the first one", y, 2, () -> y.drop(0));
        due("all else is as it was", 1, () -> bit(registerOf(y).equals(registerOf(
                of("lands 2;mark bbb 2 2;mark cccc 3 3;use 1 3 7 8;consent 0 1;")))));
        due("the second one is 0", 1, () -> bit(nameOf(y, 0).equals("bbb")));
        due("its class", 4, () -> y.mark(0, 1));
        due("no use", 0, () -> y.mark(0, 2));
        due("consent", 1, () -> y.two(1, 0, 6));
        dueAct("the last one", y, 1, () -> y.drop(1));
        due("no consent", 0, () -> y.count(4));
        dueAct("the only one", y, 0, () -> y.drop(0));
        MarkField full = of(TWELVE + "consent 0 11;consent 11 10;use 11 1 2 3;");
        dueAct("one of twelve", full, 11, () -> full.drop(0));
        due("the last one's use", 3, () -> full.used(10, 0, 2));
        due("its consent", 1, () -> full.two(9, 10, 6));
        due("the other one is gone", 1, () -> full.count(4));
        MarkField last = of(TWELVE + "consent 0 11;consent 1 10;use 10 1 2 3;use 11 0 4 5;");
        due("the last one of twelve", 11, () -> last.drop(11));
        due("the one ahead of it is as it was", 3, () -> last.used(10, 0, 2));
        due("with its consent", 1, () -> last.two(1, 10, 6));
        due("and no other", 1, () -> last.count(4));
        due("then there is room", 11, () -> file(last, "zz", 0, 0));
        due("for one without uses", 0, () -> last.mark(11, 2));
        StringBuilder text = new StringBuilder("lands 1;");
        for (int k = 0; k < 12; k++) {
            text.append("mark ").append(times("" + (char) ('a' + k), 10)).append(' ').append(k).append(' ');
            text.append(k % 10).append(';');
        }
        MarkField many = of(text.toString());
        due("one of many", 11, () -> many.drop(2));
        for (int k = 0; k < 11; k++) {
            int mark = k;
            int was = k < 2 ? k : k + 1;
            due("name of " + k, 1, () -> bit(nameOf(many, mark).equals(times("" + (char) ('a' + was), 10))));
            due("day of " + k, was, () -> many.mark(mark, 0));
            due("class of " + k, 1 << was % 10, () -> many.mark(mark, 1));
        }
        says("NoSuchElementException: no such MARK.");
        due("none is left", NO_ELEMENT, () -> y.drop(0));
        dueUnchanged("mark 2", x, NO_ELEMENT, () -> x.drop(2));
        dueOutside("mark", 0, 1, NO_ELEMENT, mark -> x.drop(mark));
        due("no marks", NO_ELEMENT, () -> new MarkField().drop(0));
    }

    private static void rule() {
        part("Promise 26: rule");
        says("An ACT: a RULE (0 LIKE, 1 CROWD, 2 ROOM, 3 REACH, 4 LAPSE, 5 EAR) is v: what it was.");
        for (int k = 0; k < 6; k++) {
            int what = k;
            int most = RULES_AT_MOST[k];
            MarkField x = new MarkField();
            dueAct("the most of " + k, x, RULES_AT_FIRST[k], () -> x.rule(what, most));
            due("it is that", most, () -> x.count(5 + what));
            MarkField y = of("lands 1;" + RULE_WORDS[k] + " " + most + ";");
            dueAct("the least of " + k, y, most, () -> y.rule(what, 0));
            due("it is that", 0, () -> y.count(5 + what));
            dueAct("what it is already", y, 0, () -> y.rule(what, 0));
        }
        says("NoSuchElementException: no such RULE.");
        MarkField x = of("lands 1;mark a 0;");
        dueUnchanged("rule 6", x, NO_ELEMENT, () -> x.rule(6, 0));
        dueOutside("rule", 0, 5, NO_ELEMENT, what -> x.rule(what, 0));
        says("IllegalArgumentException (behind that): v.");
        dueOutside("rule ahead of v", 0, 5, NO_ELEMENT, what -> x.rule(what, -1));
        for (int k = 0; k < 6; k++) {
            int what = k;
            dueUnchanged("too much of " + k, x, NO_ARGUMENT, () -> x.rule(what, RULES_AT_MOST[what] + 1));
            dueOutside("v of " + k, 0, RULES_AT_MOST[k], NO_ARGUMENT, v -> x.rule(what, v));
        }
    }

    private static void near() {
        part("Promise 27: near");
        says("An ACT: two CLASSES are NEIGHBOURS (or no more): whether they were.");
        MarkField x = of("lands 1;mark abc 0 0;mark abc 0 9;reach 1;");
        dueAct("they are", x, 0, () -> bit(x.near(0, 9, true)));
        due("both ways", 2, () -> x.steps(0, 9) + x.steps(9, 0));
        due("near by that", 1, () -> x.two(0, 1, 5));
        dueAct("they were", x, 1, () -> bit(x.near(9, 0, true)));
        due("one couple", 1, () -> x.count(3));
        dueAct("no more", x, 1, () -> bit(x.near(9, 0, false)));
        due("no way", NONE, () -> x.steps(0, 9));
        due("not alike any more", 0, () -> x.two(0, 1, 5));
        dueAct("they were not", x, 0, () -> bit(x.near(0, 9, false)));
        says("NoSuchElementException: no such CLASSES (unlike).");
        MarkField y = new MarkField();
        dueUnchanged("class 10", y, NO_ELEMENT, () -> bit(y.near(10, 0, true)));
        dueUnchanged("with itself", y, NO_ELEMENT, () -> bit(y.near(3, 3, true)));
        for (int k = 0; k < 10; k++) {
            int c = k;
            due("with itself " + k, NO_ELEMENT, () -> bit(y.near(c, c, false)));
        }
        dueOutside("one", 0, 9, NO_ELEMENT, c -> bit(y.near(c, 0, true)));
        dueOutside("other", 0, 9, NO_ELEMENT, c -> bit(y.near(0, c, true)));
        due("no act", 0, () -> y.count(11));
    }

    // ---- undone, images

    private static void undo() {
        part("Promise 28: undo");
        says("The latest ACT is UNDONE: how many still can be;");
        for (int undone = 1; undone <= 12; undone++) {
            MarkField x = of("lands 1;mark abc 1 0;mark abc 2 0;");
            doActs(x, 14);
            due("twelve are kept", 12, () -> x.count(11));
            for (int k = 1; k <= undone; k++) {
                int left = 12 - k;
                due("left", left, () -> x.undo());
            }
            MarkField y = of("lands 1;mark abc 1 0;mark abc 2 0;");
            doActs(y, 14 - undone);
            due("as ahead of the act " + undone, 1, () -> bit(registerOf(x).equals(registerOf(y))));
        }
        says("NONE: none can.");
        MarkField x = of("lands 1;mark abc 1 0;mark abc 2 0;");
        doActs(x, 14);
        for (int k = 0; k < 12; k++) {
            x.undo();
        }
        dueUnchanged("a 13th", x, NONE, () -> x.undo());
        due("of a new object", NONE, () -> new MarkField().undo());
        MarkField y = of("lands 1;");
        due("behind a register", NONE, () -> y.undo());
        y.rule(0, 1);
        due("one", 0, () -> y.undo());
        due("none", NONE, () -> y.undo());
        // A call that was refused is no act; what is undone comes not back.
        due("no rule", NO_ARGUMENT, () -> y.rule(0, 101));
        due("no name", HIDDEN, () -> y.file(0, 0, 0));
        due("none", NONE, () -> y.undo());
        due("like at first", 60, () -> y.count(5));
        // Past twelve, undone in part, and done anew: the latest twelve always.
        for (int k = 0; k < 20; k++) {
            y.rule(4, k);
        }
        for (int k = 0; k < 5; k++) {
            y.undo();
        }
        for (int k = 100; k < 103; k++) {
            y.rule(4, k);
        }
        due("ten", 10, () -> y.count(11));
        int[] lapses = {101, 100, 14, 13, 12, 11, 10, 9, 8, 7};
        for (int k = 0; k < lapses.length; k++) {
            int at = k;
            due("undo", 9 - k, () -> y.undo());
            due("lapse", lapses[at], () -> y.count(9));
        }
        due("none", NONE, () -> y.undo());
    }

    /** The first ones of fourteen acts of all kinds. */
    private static void doActs(MarkField x, int many) {
        Call[] acts = {() -> x.rule(0, 1), () -> x.use(0, 1, 2, 3), () -> bit(x.consent(0, 1, true)),
            () -> bit(x.near(0, 1, true)), () -> file(x, "new", 3, 4), () -> x.drop(0), () -> x.rule(5, 0),
            () -> x.use(1, 0, 9, 9), () -> x.drop(1), () -> file(x, "newer", 0, 0), () -> bit(x.near(0, 1, false)),
            () -> x.rule(4, 0), () -> bit(x.consent(1, 0, true)), () -> x.drop(0)};
        int[] answers = {60, 0, 0, 0, 2, 2, 50, 0, 1, 1, 1, 30, 0, 1};
        for (int k = 0; k < many; k++) {
            due("act " + k, answers[k], acts[k]);
        }
    }

    /** All that can be seen of the register, the number of acts left out. */
    private static String registerOf(MarkField x) {
        String[] words = seen(x).split(" ");
        words[11] = "";
        return String.join(" ", words);
    }

    private static void image() {
        part("Promise 29: image");
        says("An IMAGE is made (in place of the one before).");
        MarkField x = of("lands 2;mark abc 0 0;mark abc 0 0;");
        x.rule(0, 1);
        dueUnchanged("an image", x, 0, () -> {
            x.image();
            return 0;
        });
        due("acts are kept", 1, () -> x.count(11));
        x.drop(0);
        x.image();
        x.drop(0);
        due("back", 1, () -> bit(x.back()));
        due("to the second one", 1, () -> x.count(2));
        // It is not touched by what comes behind it.
        x.use(0, 0, 1, 2);
        x.rule(0, 2);
        x.near(0, 1, true);
        due("back", 1, () -> bit(x.back()));
        due("no use", 0, () -> x.mark(0, 2));
        due("like", 1, () -> x.count(5));
        due("no neighbours", 0, () -> x.count(3));
        MarkField empty = new MarkField();
        empty.image();
        empty.register(put(empty, "lands 6;mark a 0;"));
        due("of a new object", 1, () -> bit(empty.back()));
        due("one land", 1, () -> empty.count(0));
        due("no marks", 0, () -> empty.count(2));
    }

    private static void back() {
        part("Promise 30: back");
        says("All is as in the IMAGE (no ACTS are kept): true");
        MarkField x = of("lands 3;near 0 9;mark abc 5 0;mark b 6 1;use 0 5 1 2;consent 0 1;like 7;crowd 6;room 5;reach 4;"
                + "lapse 3;ear 2;");
        String before = seen(x);
        x.image();
        for (int k = 0; k < 13; k++) {
            x.drop(0);
            file(x, "zz", 4, 4);
        }
        due("twelve acts", 12, () -> x.count(11));
        due("back", 1, () -> bit(x.back()));
        due("all as in it", 1, () -> bit(seen(x).equals(before)));
        due("no acts", 0, () -> x.count(11));
        due("none to undo", NONE, () -> x.undo());
        x.rule(0, 1);
        due("back again", 1, () -> bit(x.back()));
        due("all as in it again", 1, () -> bit(seen(x).equals(before)));
        x.rule(0, 1);
        due("acts come anew", 0, () -> x.undo());
        due("undone to it", 1, () -> bit(seen(x).equals(before)));
        says("false (nothing changes): none was made");
        MarkField y = of("lands 2;mark abc 0 0;");
        y.rule(0, 1);
        put(y, "rest");
        dueUnchanged("none was made", y, 0, () -> bit(y.back()));
        due("the act can be undone", 0, () -> y.undo());
        due("of a new object", 0, () -> bit(new MarkField().back()));
    }

    public static void main(String[] args) {
        file();
        use();
        consent();
        drop();
        rule();
        near();
        undo();
        image();
        back();
        endOfPromises(22, 23, 24, 25, 26, 27, 28, 29, 30);
    }
}
