/** Each sentence of the promises about the tape and its texts: 1 to 4, and 31. */
public final class TextBoundaryTest extends Boundaries {

    private static void newObject() {
        part("Promise 1: A new object");
        says("One LAND, no MARKS.");
        MarkField x = new MarkField();
        int[] counts = {1, 2, 0, 0, 0, 60, 5, 2, 0, 30, 50, 0, 0, 0};
        for (int what = 0; what < counts.length; what++) {
            int asked = what;
            due("count " + what, counts[what], () -> x.count(asked));
        }
        due("no fault", NONE, () -> x.fault());
        due("mark 0", NO_ELEMENT, () -> x.mark(0, 0));
        due("half 1", 0, () -> x.holders(1, 0));
        due("half 2", NO_ELEMENT, () -> x.holders(2, 0));
        due("shared", 0, () -> x.shared(9999));
        due("refused", 0, () -> x.refused(0, 0));
        due("no rank", NO_ELEMENT, () -> x.ranked(0, 0, 0));
        due("no act", NONE, () -> x.undo());
        due("no image", 0, () -> bit(x.back()));
        for (int one = 0; one < 10; one++) {
            int c = one;
            due("neighbours of " + one, NONE, () -> x.steps(c, (c + 1) % 10));
        }
    }

    private static void feed() {
        part("Promise 2: feed");
        says("Twenty bytes come behind the tape, of each number the highest first: how many it has;");
        // A byte of each number at a time: abcd efgh ij.. is the name, its end the lowest byte of e.
        MarkField x = new MarkField();
        due("the first twenty", 20, () -> x.feed(0x6c616e64, 0x7320313b, 0x6d61726b, 0x20616263, 0x64656667));
        due("behind them", 40, () -> x.feed(0x68692039, 0x3b20ffff, 0x80000000, 0x7fffffff, -1));
        due("register", 1, () -> x.register(26));
        String name = "abcdefghi";
        for (int k = 0; k < 9; k++) {
            int place = k;
            due("letter " + k, name.charAt(k) - 'a' + 1, () -> x.letter(0, place, false));
        }
        due("filed", 9, () -> x.mark(0, 0));
        due("the tape begins anew", 20, () -> x.feed(0x62000000, 0, 0, 0, 0));
        due("with b", 1, () -> x.file(1, 0, 0));
        due("which it is", 2, () -> x.letter(1, 0, false));
        due("and a byte 0", 20, () -> x.feed(0x62000000, 0, 0, 0, 0));
        due("is no letter", HIDDEN, () -> x.file(2, 0, 0));
        // Each of the twenty is kept: a fault stands at each of them in turn.
        for (int k = 0; k < 20; k++) {
            int place = k;
            MarkField y = new MarkField();
            put(y, times(" ", k) + '!' + times(" ", 19 - k));
            due("a fault", -11, () -> y.register(20));
            due("at " + k, place, () -> y.fault());
        }
        says("NONE, and none come, if it would have more than 700.");
        MarkField full = new MarkField();
        for (int k = 1; k <= 34; k++) {
            int want = 20 * k;
            due("feed " + k, want, () -> full.feed(0x20202020, 0x20202020, 0x20202020, 0x20202020, 0x20202020));
        }
        due("to 700", 700, () -> full.feed(0x20202020, 0x20202020, 0x20202020, 0x20202020, 0x21202020));
        dueUnchanged("more", full, NONE, () -> full.feed(0x6c616e64, 0x7320313b, 0, 0, 0));
        dueUnchanged("and more", full, NONE, () -> full.feed(0, 0, 0, 0, 0));
        due("the text is as it was", -11, () -> full.register(700));
        due("its only sign", 696, () -> full.fault());
        due("room again", 20, () -> full.feed(0, 0, 0, 0, 0));
    }

    private static void dueSoundsOf(MarkField x, int mark, String sounds) {
        due("sounds", sounds.length(), () -> x.mark(mark, 4));
        for (int k = 0; k < sounds.length(); k++) {
            int place = k;
            due("sound " + k, "VFKLMNPRST".indexOf(sounds.charAt(k)), () -> x.letter(mark, place, true));
        }
    }

    private static void register() {
        part("Promise 3: register");
        says("The tape's first n bytes");
        String text = "lands 2;mark a 0;mark b 0;zzz";
        int[][] cuts = {{8, 0}, {17, 1}, {26, 2}, {27, -11}};
        for (int[] cut : cuts) {
            MarkField x = new MarkField();
            put(x, text);
            due("first " + cut[0], cut[1], () -> x.register(cut[0]));
        }
        // What stands behind them is not read, not even of a word or of a number.
        String[][] behind = {{"lands 10;", "7", "-11", "7"}, {"lands 1;mark abcdefghijk 0;", "23", "-11", "23"},
            {"lands 1;mark a 10000;", "19", "-11", "19"}, {"lands 1;nearby", "12", "-11", "12"}};
        for (String[] row : behind) {
            MarkField cut = new MarkField();
            put(cut, row[0]);
            due(row[0], Integer.parseInt(row[2]), () -> cut.register(Integer.parseInt(row[1])));
            due("at the end", Integer.parseInt(row[3]), () -> cut.fault());
        }
        MarkField longest = new MarkField();
        put(longest, "lands 1;" + times(" ", 683) + "mark a 0;");
        due("all 700", 1, () -> longest.register(700));
        MarkField whole = new MarkField();
        put(whole, "lands 1;");
        due("with the blanks behind", 0, () -> whole.register(20));
        says("(it is empty then, whatever comes of it)");
        MarkField x = new MarkField();
        int n = put(x, text);
        due("a register", 2, () -> x.register(26));
        due("empty", 0, () -> x.count(12));
        put(x, text);
        due("a fault", -11, () -> x.register(n));
        due("empty, too", 0, () -> x.count(12));
        put(x, text);
        due("no bytes", -11, () -> x.register(0));
        due("empty all the same", 0, () -> x.count(12));
        due("no bytes of an empty tape", -11, () -> x.register(0));
        says("are a REGISTER in place of the one before (no ACTS are kept): how many MARKS.");
        MarkField y = of("lands 6;near 0 1;mark a 0 5;mark b 0;use 0 11 1 2;consent 0 1;like 1;crowd 1;room 1;reach 1;"
                + "lapse 1;ear 1;");
        for (int k = 0; k < 13; k++) {
            y.rule(0, k);
        }
        int m = put(y, "lands 1;mark c 9;mark d 9;");
        due("two marks", 2, () -> y.register(m));
        due("as if it were the first one", 1, () -> bit(seen(y).equals(seen(of("lands 1;mark c 9;mark d 9;")))));
        due("nothing to undo", NONE, () -> y.undo());
        // All that follows from it is of the new one, too.
        MarkField other = of("lands 1;near 0 1;reach 1;mark abc 0 0;mark abc 0 1;mark zzz 0 0;use 0 0 1 2;");
        due("alike", 1, () -> other.two(0, 1, 5));
        other.register(put(other, "lands 1;mark phx 5 0;mark mmm 6 0;mark mmm 7 0;"));
        dueSoundsOf(other, 0, "FKS");
        dueSoundsOf(other, 1, "M");
        due("not alike", 0, () -> other.two(0, 1, 5));
        due("these are", 1, () -> other.two(1, 2, 5));
        due("fields", 1, () -> other.mark(2, 5));
        due("holders", 3, () -> other.holders(0, 7));
        due("none at all", 0, () -> y.register(put(y, "lands 1;")));
        String twelve = "lands 1;" + times("mark a 0;", 12);
        due("twelve", 12, () -> y.register(put(y, twelve)));
        says("-10 less the FAULT (nothing else changes).");
        String[] faulty = {"", "lands 9;", "lands 1;mark abcdefghijk 0;", twelve + "mark a 0;"};
        int[] faults = {-11, -12, -13, -14};
        for (int k = 0; k < 4; k++) {
            MarkField z = of("lands 2;mark abc 1 0;mark b 2;use 1 3 4 5;consent 0 1;near 0 1;");
            z.image();
            z.rule(0, 50);
            z.drop(1);
            String before = seen(z);
            int length = put(z, faulty[k]);
            int want = faults[k];
            due("fault " + (k + 1), want, () -> z.register(length));
            due("its place is told", 1, () -> bit(z.fault() >= 0));
            z.ask(put(z, "many 0=0"), 0);
            due("nothing else has changed", 1, () -> bit(seen(z).equals(before)));
            due("acts can be undone", 1, () -> z.undo());
            due("to two marks", 2, () -> z.count(2));
            due("and the image is there", 1, () -> bit(z.back()));
            due("as it was", 60, () -> z.count(5));
        }
        says("IllegalArgumentException: the tape has not so many, n below 0 (nothing changes).");
        MarkField z = of("lands 2;mark abc 1 0;");
        z.register(put(z, "lands 0;"));
        dueUnchanged("an empty tape", z, NO_ARGUMENT, () -> z.register(1));
        z.rule(0, 1);
        put(z, "lands 1;");
        dueUnchanged("one too many", z, NO_ARGUMENT, () -> z.register(21));
        for (int wild : WILD) {
            due("n " + wild, NO_ARGUMENT, () -> z.register(wild));
        }
        due("the tape stays", 20, () -> z.count(12));
        due("the place stays", 6, () -> z.fault());
        due("the text, too", 0, () -> z.register(20));
        due("which is read", 1, () -> z.count(0));
        MarkField full = new MarkField();
        put(full, times(" ", 700));
        dueUnchanged("701", full, NO_ARGUMENT, () -> full.register(701));
    }

    private static void fault() {
        part("Promise 4: fault");
        says("The place of the latest FAULT of register(), ask()");
        MarkField x = new MarkField();
        x.register(put(x, "lands 7;"));
        due("of register", 6, () -> x.fault());
        x.ask(put(x, "many foo=1"), 0);
        due("of ask", 5, () -> x.fault());
        x.register(put(x, "lands 1;near 3 3;"));
        due("of register again", 15, () -> x.fault());
        x.register(put(x, "  "));
        due("of the end", 2, () -> x.fault());
        x.register(0);
        due("of no bytes", 0, () -> x.fault());
        x.register(put(x, "lands 1;" + times(" ", 691) + "!"));
        due("of the last byte of 700", 699, () -> x.fault());
        x.register(put(x, "lands 1" + times(" ", 693)));
        due("of the end of 700", 700, () -> x.fault());
        x.ask(put(x, "many mark=0" + times(" ", 188) + "x"), 0);
        due("of the last byte of 200", 199, () -> x.fault());
        says("(the latest of these that was no IllegalArgumentException)");
        due("register", NO_ARGUMENT, () -> x.register(1));
        due("still that", 199, () -> x.fault());
        due("ask", NO_ARGUMENT, () -> x.ask(0, 10000));
        due("still that", 199, () -> x.fault());
        due("ask of too many", NO_ARGUMENT, () -> x.ask(1, 0));
        due("still that", 199, () -> x.fault());
        // Other calls that fail, and acts, are none of these.
        due("no name", HIDDEN, () -> x.file(0, 0, 0));
        due("no name", HIDDEN, () -> x.would(0, 0, 0, 0));
        due("no mark", NO_ELEMENT, () -> x.mark(0, 0));
        x.image();
        x.rule(0, 1);
        x.undo();
        x.back();
        due("still that", 199, () -> x.fault());
        says("NONE: it had none, or there was none.");
        due("there was none", NONE, () -> new MarkField().fault());
        due("a call that throws is none", NO_ARGUMENT, () -> new MarkField().register(1));
        x.ask(put(x, "many 0=0"), 0);
        due("a question without", NONE, () -> x.fault());
        x.ask(put(x, "many 0=0 0"), 0);
        due("and with", 9, () -> x.fault());
        x.register(put(x, "lands 1;"));
        due("a register without", NONE, () -> x.fault());
        due("and one that throws", NO_ARGUMENT, () -> x.register(1));
        due("leaves it", NONE, () -> x.fault());
    }

    private static void ask() {
        part("Promise 31: ask");
        says("The tape's first n bytes");
        MarkField x = of("lands 1;" + times("mark a 0;", 12));
        put(x, "many mark=11");
        due("mark=11", 1, () -> x.ask(12, 0));
        due("which is there", 11, () -> x.ask(put(x, "first mark=11"), 0));
        put(x, "first mark=11");
        due("mark=1", 1, () -> x.ask(12, 0));
        put(x, "first mark=11");
        due("mark=", HIDDEN - 1, () -> x.ask(11, 0));
        put(x, "many mark=1 foo");
        due("what stands behind", 1, () -> x.ask(12, 0));
        put(x, "many 1=marks");
        due("a word cut short", 1, () -> x.ask(11, 0));
        put(x, "many 1=10000");
        due("a number cut short", 12, () -> x.ask(8, 0));
        says("(it is empty then, whatever comes of it)");
        due("empty behind an answer", 0, () -> x.count(12));
        put(x, "many foo" + times(" ", 100));
        due("a fault", HIDDEN - 1, () -> x.ask(8, 0));
        due("empty behind a fault", 0, () -> x.count(12));
        put(x, "many 0=0");
        due("no bytes", HIDDEN - 1, () -> x.ask(0, 0));
        due("empty behind none", 0, () -> x.count(12));
        says("are a QUESTION, asked on a day: its answer;");
        MarkField y = of("lands 1;mark a 0;mark b 9999;");
        dueAnswer(y, "many holds=2", 0, 1);
        dueAnswer(y, "many holds=2", 9998, 1);
        dueAnswer(y, "many holds=2", 9999, 2);
        dueAnswer(y, "first holds=0", 0, 1);
        dueAnswer(y, "first holds=0", 9999, NONE);
        dueAnswer(y, "many mark>1", 0, 0);
        says("HIDDEN less the FAULT.");
        dueQuestionFault("many", 1, 4);
        dueQuestionFault("many 10000=0", 2, 5);
        dueQuestionFault("many (((((((", 3, 11);
        MarkField w = of("lands 1;mark a 0;");
        w.rule(0, 1);
        String before = seen(w);
        w.ask(put(w, "many"), 0);
        w.ask(put(w, "many 0=0"), 0);
        due("nothing has changed by a question", 1, () -> bit(seen(w).equals(before)));
        says("IllegalArgumentException: the tape has not so many, n below 0, above 200, no such day (nothing changes).");
        MarkField z = of("lands 1;mark a 0;mark b 0;");
        z.register(put(z, "lands 9;"));
        z.rule(0, 1);
        dueUnchanged("an empty tape", z, NO_ARGUMENT, () -> z.ask(1, 0));
        put(z, "many 0=0");
        dueUnchanged("one too many", z, NO_ARGUMENT, () -> z.ask(21, 0));
        dueUnchanged("day 10000", z, NO_ARGUMENT, () -> z.ask(8, 10000));
        for (int wild : WILD) {
            due("n " + wild, NO_ARGUMENT, () -> z.ask(wild, 0));
            due("day " + wild, NO_ARGUMENT, () -> z.ask(8, wild));
        }
        due("the tape stays", 20, () -> z.count(12));
        due("and can be asked", 2, () -> z.ask(8, 9999));
        MarkField v = of("lands 1;mark a 0;");
        put(v, "many 0=0" + times(" ", 192) + "x");
        dueUnchanged("201", v, NO_ARGUMENT, () -> v.ask(201, 0));
        dueUnchanged("220", v, NO_ARGUMENT, () -> v.ask(220, 0));
        due("200", 1, () -> v.ask(200, 0));
    }

    public static void main(String[] args) {
        newObject();
        feed();
        register();
        fault();
        ask();
        endOfPromises(1, 2, 3, 4, 31);
    }
}
