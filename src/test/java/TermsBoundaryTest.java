/** Each sentence of the document's Terms: where its numbers end, and what holds there. */
public final class TermsBoundaryTest extends Boundaries {
    private static final String TWELVE = "lands 1;" + times("mark a 0;", 12);

    // ---- what there is

    private static void lands() {
        says("LANDS 0 to 5, HALVES 0 to 11");
        MarkField x = of("lands 6;");
        due("lands", 6, () -> x.count(0));
        due("halves", 12, () -> x.count(1));
        due("half 11", 0, () -> x.holders(11, 0));
        due("half 12", NO_ELEMENT, () -> x.holders(12, 0));
        due("half -1", NO_ELEMENT, () -> x.holders(-1, 0));
        dueFault("lands 7;", 2, 6);
        dueFault("lands 0;", 2, 6);
        says("LAND k has 2 k and 2 k + 1");
        String two = "lands 6;lapse 0;mark abc 99 0;mark abc 99 0;";
        for (int k = 0; k < 6; k++) {
            int bits = 1 << k;
            MarkField y = of(two + "use 0 " + 2 * k + " 1 9;use 1 " + (2 * k + 1) + " 1 9;");
            due("both halves of land " + k, bits, () -> y.shared(5));
        }
        for (int k = 0; k < 5; k++) {
            MarkField y = of(two + "use 0 " + (2 * k + 1) + " 1 9;use 1 " + (2 * k + 2) + " 1 9;");
            due("halves of two lands " + k, 0, () -> y.shared(5));
        }
        says("there are 2 times as many HALVES as LANDS");
        for (int k = 1; k <= 6; k++) {
            int lands = k;
            MarkField y = of("lands " + k + ";");
            due("halves of " + k, 2 * k, () -> y.count(1));
            due("the last one of " + k, 0, () -> y.holders(2 * lands - 1, 0));
            due("one behind it of " + k, NO_ELEMENT, () -> y.holders(2 * lands, 0));
        }
    }

    private static void classesAndMarks() {
        says("CLASSES 0 to 9");
        MarkField x = of("lands 1;mark a 0 0 9;near 0 9;");
        due("0 and 9", 513, () -> x.mark(0, 1));
        due("class 10", NO_ELEMENT, () -> x.steps(0, 10));
        dueFault("lands 1;mark a 0 10;", 2, 17);
        says("two may be told NEIGHBOURS");
        due("0 and 9", 1, () -> x.steps(0, 9));
        due("0 and 8", NONE, () -> x.steps(0, 8));
        says("MARKS 0 to at most 11");
        MarkField y = of(TWELVE);
        due("twelve", 12, () -> y.count(2));
        due("mark 11", 0, () -> y.mark(11, 0));
        due("mark 12", NO_ELEMENT, () -> y.mark(12, 0));
        int n = put(y, "a");
        due("a 13th", NONE, () -> y.file(n, 0, 0));
        says("a NAME (1 to 10 letters a to z");
        MarkField z = of("lands 1;mark a 0;mark zzzzzzzzzz 0;");
        due("one letter", 1, () -> z.mark(0, 3));
        due("which is a", 1, () -> z.letter(0, 0, false));
        due("ten letters", 10, () -> z.mark(1, 3));
        due("the last one is z", 26, () -> z.letter(1, 9, false));
        dueFault("lands 1;mark aaaaaaaaaaa 0;", 3, 13);
        says("two may have one");
        MarkField w = of("lands 1;mark abc 0 0;mark abc 0 0;");
        due("two", 2, () -> w.count(2));
        due("alike", 100, () -> w.two(0, 1, 2));
        says("USES (12 of one MARK at most");
        MarkField v = of("lands 1;mark a 0;mark b 0;" + times("use 0 1 2 3;", 12) + times("use 1 0 4 5;", 12));
        due("twelve of 0", 12, () -> v.mark(0, 2));
        due("twelve of 1", 12, () -> v.mark(1, 2));
        due("the last one of 1", 5, () -> v.used(1, 11, 2));
        due("a 13th", NONE, () -> v.use(1, 0, 0, 0));
    }

    private static void daysAndRules() {
        says("Days are 0 to 9999.");
        MarkField x = of("lands 1;mark a 0;mark b 9999;use 1 0 0 9999;");
        due("filed on 0", 0, () -> x.mark(0, 0));
        due("filed on 9999", 9999, () -> x.mark(1, 0));
        due("used to 9999", 9999, () -> x.used(1, 0, 2));
        due("on day 9999", 0, () -> x.here(1, 0, 9999, 0));
        due("on day 10000", NO_ARGUMENT, () -> x.here(1, 0, 10000, 0));
        due("on day -1", NO_ARGUMENT, () -> x.here(1, 0, -1, 0));
        dueFault("lands 1;mark a 10000;", 2, 15);
        says("CONSENT is between two MARKS (mutual).");
        MarkField y = of("lands 1;mark a 0;mark b 0;consent 1 0;");
        due("1 with 0", 1, () -> y.two(1, 0, 6));
        due("0 with 1", 1, () -> y.two(0, 1, 6));
        due("one couple", 1, () -> y.count(4));
        due("told the other way round", 1, () -> bit(y.consent(0, 1, false)));
        due("gone both ways", 0, () -> y.two(1, 0, 6) + y.two(0, 1, 6));
        String[] told = {"LIKE 0 to 100 (60 at first)", "CROWD 0 to 20 (5)", "ROOM 0 to 9 (2)",
            "REACH 0 to 5 (0)", "LAPSE 0 to 999 (30)", "EAR 0 to 100 (50)"};
        for (int k = 0; k < 6; k++) {
            int what = k;
            int most = RULES_AT_MOST[k];
            String line = "lands 1;" + RULE_WORDS[k] + " ";
            says(told[k]);
            due("at first", RULES_AT_FIRST[k], () -> of("lands 1;").count(5 + what));
            due("in a new object", RULES_AT_FIRST[k], () -> new MarkField().count(5 + what));
            due("the least", 0, () -> of(line + "0;").count(5 + what));
            due("the most", most, () -> of(line + most + ";").count(5 + what));
            dueFault(line + (most + 1) + ";", 2, line.length());
        }
    }

    // ---- the text of a register

    private static void tokens() {
        says("A TEXT of at most 700 bytes tells a REGISTER.");
        MarkField x = of("lands 1;" + times(" ", 683) + "mark a 0;");
        due("the last ones of 700 count", 1, () -> x.count(2));
        says("a WORD is a row of small letters");
        dueFault("Lands 1;", 1, 0);
        dueFault("lanDs 1;", 1, 0);
        dueFault("lands 1;mark a`b 0;", 1, 14);
        dueFault("lands 1;mark a{b 0;", 1, 14);
        dueFault("lands 1;mark `a 0;", 1, 13);
        dueFault("lands 1;markz 0;", 1, 8);
        due("a word ends where figures begin", 1, () -> of("lands1;mark a0;").count(2));
        says("a NUMBER a row of figures");
        dueFault("lands /1;", 1, 6);
        dueFault("lands :1;", 1, 6);
        dueFault("lands 1/;", 1, 7);
        dueFault("lands 1:;", 1, 7);
        dueFault("lands -1;", 1, 6);
        due("a number ends where letters begin", 9, () -> of("lands 1;mark abc 9;").mark(0, 0));
        dueFault("lands 1;mark abc 9x;", 1, 18);
        says("it counts as what it is, 007 as 7");
        MarkField y = of("lands " + times("0", 300) + "2;mark a 007 009;like 0100;");
        due("2 lands", 2, () -> y.count(0));
        due("007", 7, () -> y.mark(0, 0));
        due("009", 512, () -> y.mark(0, 1));
        due("0100", 100, () -> y.count(5));
        dueFault("lands 257;", 2, 6);
        dueFault("lands 65537;", 2, 6);
        dueFault("lands 100001;", 2, 6);
        dueFault("lands 4294967297;", 2, 6);
        dueFault("lands 18446744073709551617;", 2, 6);
        dueFault("lands " + times("9", 600) + ";", 2, 6);
        says("any other byte but blanks (32, 10) is one by itself");
        for (int b = 0; b < 256; b++) {
            String text = "lands 1;" + (char) b;
            if (b == 32 || b == 10) {
                due("blank " + b, 1, () -> of(text).count(0));
            } else {
                dueFault(text, 1, 8);
            }
        }
        dueFault("lands 1;;", 1, 8);
        dueFault("lands\t1;", 1, 5);
        dueFault("lands\r1;", 1, 5);
        says("blanks stand where one likes, not in WORDS, NUMBERS");
        MarkField z = of("\n  lands\n2 \n; mark \n a  1 2\n;near 0  9\n ; \n");
        due("2 lands", 2, () -> z.count(0));
        due("filed", 1, () -> z.mark(0, 0));
        due("class", 4, () -> z.mark(0, 1));
        due("none are needed", 12, () -> of("lands1;mark a12;").mark(0, 0));
        dueFault("la nds 1;", 1, 0);
        dueFault("lands 1;ma rk a 0;", 1, 8);
        dueFault("lands 1;like 1 0;", 1, 15);
    }

    private static void lines() {
        says("TEXT: 'lands' NUMBER ';' (LINE ';')*.");
        due("no line", 0, () -> of("lands 1;").count(2));
        dueFault("lands 1", 1, 7);
        dueFault("lands 1;near 0 1", 1, 16);
        dueFault("near 0 1;", 1, 0);
        dueFault("lands 1;lands 1;", 1, 8);
        says("'near' NUMBER NUMBER (CLASSES)");
        dueFault("lands 1;near;", 1, 12);
        dueFault("lands 1;near 0;", 1, 14);
        dueFault("lands 1;near 0 1 2;", 1, 17);
        due("told twice", 1, () -> of("lands 1;near 0 9;near 9 0;").count(3));
        says("'mark' NAME NUMBER (FILED) NUMBER* (CLASSES; there may be none)");
        due("none", 0, () -> of("lands 1;mark a 5;").mark(0, 1));
        due("all", 1023, () -> of("lands 1;mark a 5 9 8 7 6 5 4 3 2 1 0;").mark(0, 1));
        dueFault("lands 1;mark;", 1, 12);
        dueFault("lands 1;mark 5;", 1, 13);
        dueFault("lands 1;mark a;", 1, 14);
        dueFault("lands 1;mark a b;", 1, 15);
        dueFault("lands 1;mark a 5 b;", 1, 17);
        says("'use' NUMBER (the MARK) NUMBER (the HALF) NUMBER NUMBER (from, to)");
        MarkField x = of("lands 1;mark a 0;use 0 1 2 3;");
        due("the half", 1, () -> x.used(0, 0, 0));
        due("from", 2, () -> x.used(0, 0, 1));
        due("to", 3, () -> x.used(0, 0, 2));
        dueFault("lands 1;mark a 0;use 0 1 2;", 1, 26);
        dueFault("lands 1;mark a 0;use 0 1 2 3 4;", 1, 29);
        says("'consent' NUMBER NUMBER (MARKS)");
        due("told twice", 1, () -> of("lands 1;mark a 0;mark b 0;consent 0 1;consent 1 0;").count(4));
        dueFault("lands 1;mark a 0;mark b 0;consent 0;", 1, 35);
        dueFault("lands 1;mark a 0;mark b 0;consent 0 1 0;", 1, 38);
        says("('like' | 'crowd' | 'room' | 'reach' | 'lapse' | 'ear') NUMBER (the latest counts)");
        for (int k = 0; k < 6; k++) {
            int what = k;
            String word = RULE_WORDS[k];
            String start = "lands 1;" + word;
            due("of two", 2, () -> of(start + " 0;" + word + " 2;").count(5 + what));
            due("of two", 0, () -> of(start + " 2;" + word + " 0;").count(5 + what));
            dueFault(start + ";", 1, start.length());
            dueFault(start + " 1 1;", 1, start.length() + 3);
            dueFault(start + "s 1;", 1, 8);
        }
        says("A NAME is a WORD (any).");
        String[] words = {"lands", "near", "mark", "use", "consent", "like", "crowd", "room", "reach", "lapse", "ear",
            "many", "first", "not", "and", "or"};
        for (String word : words) {
            MarkField y = of("lands 1;mark " + word + " 3 4;");
            due("a mark " + word, word.length(), () -> y.mark(0, 3));
            due("its class", 16, () -> y.mark(0, 1));
        }
    }

    private static void faults() {
        says("the text is gone through from its first byte on, TOKEN by TOKEN; at the first TOKEN");
        dueFault("lands 7;mark abcdefghijk x", 2, 6);
        dueFault("lands 1;mark abcdefghijk x", 3, 13);
        dueFault("lands 1;mark a x 10;", 1, 15);
        dueFault("lands 1;near 10 10 10", 2, 13);
        says("it is that (the first one of this list)");
        dueFault("lands 1 7;", 1, 8);
        dueFault("lands 1;like 5 101;", 1, 15);
        dueFault("lands 1;mark a abcdefghijk;", 1, 15);
        dueFault("lands 1;" + times("mark a 0;", 11) + "mark a 0 mark", 1, 116);
        says("its place the TOKEN's first byte");
        dueFault("lands \n  77;", 2, 9);
        dueFault("lands 1;mark  abcdefghijklm 0;", 3, 14);
        dueFault("lands 1;  foo 0;", 1, 10);
        says("1 it can't stand there (the end, where the text can't end: its length)");
        String whole = "lands 2;near 0 1;mark ab 5 1;mark c 6;use 0 3 1 2;consent 0 1;like 9;ear 1;";
        for (int n = 0; n < whole.length(); n++) {
            cutAt(whole, n);
        }
        dueFault("", 1, 0);
        dueFault(" \n ", 1, 3);
        dueFault("lands 1 \n", 1, 9);
        dueFault("lands 1;near 0 1  ", 1, 18);
    }

    /** A text that is cut short ends in no fault behind a semicolon alone. */
    private static void cutAt(String whole, int n) {
        String text = whole.substring(0, n);
        if (text.endsWith(";")) {
            due("register of " + text, 2, () -> of(text).count(0));
            return;
        }
        int line = text.lastIndexOf(';') + 1;
        boolean cutWord = !text.substring(line).contains(" ") && whole.charAt(n) != ' ' && n > line;
        dueFault(text, 1, cutWord ? line : n);
    }

    private static void wrongNumbers() {
        says("2 a NUMBER that isn't as told");
        dueFault("lands 0;", 2, 6);
        dueFault("lands 1;near 10 1;", 2, 13);
        dueFault("lands 1;near 1 10;", 2, 15);
        dueFault("lands 1;mark a 10000;", 2, 15);
        dueFault("lands 1;mark a 0 9 10;", 2, 19);
        dueFault("lands 1;mark a 0;use 0 0 10000 10000;", 2, 25);
        dueFault("lands 1;mark a 0;use 0 0 0 10000;", 2, 27);
        says("of no MARK told ahead");
        dueFault("lands 1;use 0 0 0 0;", 2, 12);
        dueFault("lands 1;mark a 0;use 1 0 0 0;mark b 0;", 2, 21);
        dueFault("lands 1;consent 0 1;", 2, 16);
        dueFault("lands 1;mark a 0;consent 1 0;mark b 0;", 2, 25);
        dueFault("lands 1;mark a 0;consent 0 1;mark b 0;", 2, 27);
        dueFault(TWELVE + "use 12 0 0 0;", 2, 120);
        dueFault(TWELVE + "use 13 0 0 0;", 2, 120);
        dueFault(TWELVE + "use 99999999999 0 0 0;", 2, 120);
        dueFault(TWELVE + "consent 12 0;", 2, 124);
        dueFault(TWELVE + "consent 0 99999999999;", 2, 126);
        // One that an earlier register told is none, were its uses ever so many.
        MarkField later = of("lands 1;mark a 0;mark b 0;" + times("use 1 0 0 0;", 12));
        due("told in another text", -12, () -> later.register(put(later, "lands 1;mark a 0;use 1 0 0 0;")));
        says("of no HALF there is");
        dueFault("lands 1;mark a 0;use 0 2 0 0;", 2, 23);
        dueFault("lands 6;mark a 0;use 0 12 0 0;", 2, 23);
        due("half 11", 11, () -> of("lands 6;mark a 0;use 0 11 0 0;").used(0, 0, 0));
        says("a second one of a couple that is the first one");
        dueFault("lands 1;near 3 3;", 2, 15);
        dueFault("lands 1;near 0 000;", 2, 15);
        dueFault("lands 1;mark a 0;mark b 0;consent 1 1;", 2, 36);
        says("a day to which one uses ahead of that from which");
        dueFault("lands 1;mark a 0;use 0 0 5 4;", 2, 27);
        dueFault("lands 1;mark a 0;use 0 0 9999 0;", 2, 30);
        due("one day", 5, () -> of("lands 1;mark a 0;use 0 0 5 5;").used(0, 0, 2));
        says("a CLASS of a MARK told twice");
        dueFault("lands 1;mark a 1 3 3;", 2, 19);
        dueFault("lands 1;mark a 1 3 4 5 03;", 2, 23);
        dueFault("lands 1;mark a 1 0 1 2 3 4 5 6 7 8 9 0;", 2, 37);
        due("of another one", 8, () -> of("lands 1;mark a 3 3;mark b 3 3;").mark(1, 1));
        says("3 a WORD of more than 10 letters where a NAME stands");
        dueFault("lands 1;mark abcdefghijk 0;", 3, 13);
        dueFault("lands 1;mark " + times("a", 600), 3, 13);
        due("ten", 10, () -> of("lands 1;mark abcdefghij 0;").mark(0, 3));
        says("4 the word of a 13th MARK");
        dueFault(TWELVE + "mark a 0;", 4, 116);
        dueFault(TWELVE + "mark", 4, 116);
        dueFault(TWELVE + "mark abcdefghijk 0;", 4, 116);
        due("another line behind twelve", 1, () -> of(TWELVE + "near 0 1;").count(3));
        says("the number of the MARK of a 13th USE of it");
        String full = "lands 1;mark a 0;mark b 0;" + times("use 1 0 0 0;", 12);
        dueFault(full + "use 1 0 0 0;", 4, full.length() + 4);
        dueFault(full + "use 01", 4, full.length() + 4);
        dueFault(full + "use b 0 0 0;", 1, full.length() + 4);
        dueFault(full + "use", 1, full.length() + 3);
        dueFault("lands 1;mark a 0;" + times("use 0 0 0 0;", 12) + "use;", 1, 164);
        dueFault(full + "use 1 9 9 8;", 4, full.length() + 4);
        due("of another one", 1, () -> of(full + "use 0 0 0 0;").mark(0, 2));
    }

    // ---- names

    private static void sounds() {
        says("from the left on, each time the first that fits of: ph F, th T, ch K, ck K, sh S, gh nothing");
        String[][] names = {{"ph", "F"}, {"th", "T"}, {"ch", "K"}, {"ck", "K"}, {"sh", "S"}, {"gh", ""},
            {"pph", "PF"}, {"tth", "T"}, {"tch", "TK"}, {"sch", "SK"}, {"cck", "K"}, {"ckh", "K"}, {"csh", "KS"},
            {"ggh", "K"}, {"ghg", "K"}, {"phh", "F"}, {"mph", "MF"}, {"hp", "P"}, {"hsh", "S"}, {"kh", "K"}};
        for (String[] row : names) {
            dueSounds(row[0], row[1]);
        }
        says("x K and S");
        dueSounds("x", "KS");
        dueSounds("xxxxxxxxxx", times("KS", 10));
        says("c ahead of e, i or y S, any other c, k, q, g, j K");
        String[][] withC = {{"ce", "S"}, {"ci", "S"}, {"cy", "S"}, {"ca", "K"}, {"co", "K"}, {"cu", "K"}, {"c", "K"},
            {"cl", "KL"}, {"ac", "VK"}, {"ace", "VS"}, {"ccy", "KS"}, {"k", "K"}, {"q", "K"}, {"g", "K"}, {"j", "K"},
            {"che", "K"}, {"cke", "K"}, {"ge", "K"}};
        for (String[] row : withC) {
            dueSounds(row[0], row[1]);
        }
        says("s, z S, f, v F, b, p P, d, t T, m M, n N, l L, r R");
        String letters = "szfvbpdtmnlr";
        String heard = "SSFFPPTTMNLR";
        for (int k = 0; k < letters.length(); k++) {
            dueSounds(letters.substring(k, k + 1), heard.substring(k, k + 1));
        }
        says("a, e, i, o, u, y V if it is the NAME's first letter, else nothing, h, w nothing");
        for (char vowel : "aeiouy".toCharArray()) {
            dueSounds("" + vowel, "V");
            dueSounds("l" + vowel, "L");
            dueSounds("h" + vowel, "");
            dueSounds("gh" + vowel, "");
            dueSounds("a" + vowel + "l", "VL");
        }
        dueSounds("hl", "L");
        dueSounds("wl", "L");
        says("SOUNDS of a NAME");
        // What stands behind a name, in the next one or in one that was there before, is nothing to it.
        String[][] ends = {{"p", "h", "P"}, {"t", "h", "T"}, {"c", "e", "K"}, {"g", "h", "K"}, {"s", "h", "S"}};
        for (String[] row : ends) {
            MarkField x = of("lands 1;mark laaaaaaaa" + row[0] + " 0;mark " + row[1] + " 0;");
            int want = "VFKLMNPRST".indexOf(row[2]);
            due("the last sound ahead of " + row[1], want, () -> x.letter(0, 1, true));
            MarkField y = of("lands 1;mark " + row[0] + row[1] + " 0;");
            y.drop(0);
            y.file(put(y, row[0]), 0, 0);
            due("sound of " + row[0] + " where " + row[1] + " stood", want, () -> y.letter(0, 0, true));
        }
        says("then of like SOUNDS side by side one stays");
        String[][] doubles = {{"papap", "P"}, {"mum", "M"}, {"xs", "KS"}, {"sx", "SKS"}, {"kx", "KS"}, {"bp", "P"},
            {"nmn", "NMN"}, {"lwhl", "L"}, {"ckk", "K"}, {"zsz", "S"}, {"xk", "KSK"}};
        for (String[] row : doubles) {
            dueSounds(row[0], row[1]);
        }
        says("(There may be none.)");
        dueSounds("hw", "");
        dueSounds("ghghghghgh", "");
        dueSounds("haaaaaaaaa", "");
    }

    /** Likeness of letters, or of sounds (what 1), both ways round, whichever was told first. */
    private static void dueLikeness(String one, String other, int what, int want) {
        String[][] orders = {{one, other}, {other, one}};
        for (String[] order : orders) {
            MarkField x = of("lands 1;mark " + order[0] + " 0;mark " + order[1] + " 0;");
            due(order[0] + " and " + order[1], want, () -> x.two(0, 1, what));
            due(order[1] + " and " + order[0], want, () -> x.two(1, 0, what));
        }
    }

    private static void likeness() {
        says("the least of what it costs to make one the other");
        dueLikeness("abc", "abc", 0, 100);
        dueLikeness("il", "li", 0, 50);
        dueLikeness("abcd", "bcda", 0, 50);
        dueLikeness("abcdefghij", "bcdefghija", 0, 80);
        dueLikeness("xxxxxxxxxx", "xxxxxxxxxk", 1, 95);
        dueLikeness("xxxxxxxxxx", "zk", 1, 10);
        dueLikeness("xxxxxxxxxx", "kzkzkzkzkz", 1, 50);
        // Only what stands at one place is common to both ends: it is counted once.
        dueLikeness("ra", "rz", 0, 50);
        dueLikeness("ar", "zr", 0, 50);
        dueLikeness("rr", "rrrr", 0, 50);
        dueLikeness("rtr", "rttr", 0, 75);
        dueLikeness("rtrtr", "rtr", 0, 60);
        dueLikeness("r", "rrrrrrrrrr", 0, 10);
        dueLikeness("rst", "rxt", 0, 66);
        says("one that comes, one that goes 2");
        dueLikeness("ab", "a", 0, 50);
        dueLikeness("abcdefghij", "bcdefghij", 0, 90);
        dueLikeness("abcdefghij", "abcdefghi", 0, 90);
        dueLikeness("abcdefghij", "abcdfghij", 0, 90);
        says("one that becomes another one 2, but 1 of two that are KIN");
        dueLikeness("r", "t", 0, 0);
        dueLikeness("abr", "abt", 0, 66);
        String[] kin = {"il", "ij", "mn", "uv", "co", "bd", "pq", "ec"};
        for (String couple : kin) {
            dueLikeness(couple.substring(0, 1), couple.substring(1), 0, 50);
        }
        dueLikeness("j", "l", 0, 0);
        dueLikeness("e", "o", 0, 0);
        String[] kinOfSounds = {"pf", "ks", "mn", "lr", "ts"};
        for (String couple : kinOfSounds) {
            dueLikeness(couple.substring(0, 1), couple.substring(1), 1, 50);
        }
        dueLikeness("k", "t", 1, 0);
        says("100, less 50 times FAR by the length of the longer one, in whole numbers (rounded up what is taken off)");
        dueLikeness("r", "zzzzzzzzzz", 0, 0);
        dueLikeness("abr", "abm", 0, 66);
        dueLikeness("abcdem", "abcden", 0, 91);
        dueLikeness("rstrstr", "rstrstl", 0, 85);
        dueLikeness("rr", "rrr", 0, 66);
        dueLikeness("xxxxxxxxxx", "x", 1, 10);
        says("of two empty ones 100");
        dueLikeness("hw", "wh", 1, 100);
        dueLikeness("h", "wwwwwwwwww", 1, 100);
        dueLikeness("hw", "l", 1, 0);
        says("EAR times that of SOUNDS and 100 less EAR times that of letters, together by 100 (cut)");
        String couple = "mark mentolo 0;mark mentol 0;";
        int[][] rows = {{0, 85}, {1, 85}, {6, 85}, {7, 86}, {30, 89}, {50, 92}, {99, 99}, {100, 100}};
        for (int[] row : rows) {
            MarkField x = of("lands 1;ear " + row[0] + ";" + couple);
            due("ear " + row[0], row[1], () -> x.two(0, 1, 2));
        }
    }

    // ---- goods and fields

    private static void goods() {
        String chain = "lands 1;near 0 1;near 1 2;near 2 3;near 3 4;near 4 5;near 5 6;near 6 7;near 7 8;near 8 9;";
        says("so many steps apart as the nearest CLASSES of one and the other");
        MarkField x = of(chain + "mark a 0 0 5;mark a 0 9 7;mark a 0 3 9;");
        due("5 and 7", 2, () -> x.two(0, 1, 3));
        due("5 and 3", 2, () -> x.two(0, 2, 3));
        says("0: one of both; by NEIGHBOURS; none: no way, no CLASSES");
        due("9 of both", 0, () -> x.two(1, 2, 3));
        MarkField y = of("lands 1;near 0 1;mark a 0 0;mark a 0 1;mark a 0 2;mark a 0;mark a 0;");
        due("neighbours", 1, () -> y.two(0, 1, 3));
        due("no way", NONE, () -> y.two(0, 2, 3));
        due("no classes of one", NONE, () -> y.two(0, 3, 3));
        due("of the other", NONE, () -> y.two(3, 0, 3));
        due("of both", NONE, () -> y.two(3, 4, 3));
        says("NEAR: REACH steps or fewer.");
        MarkField z = of(chain + "mark a 0 0;mark a 0 0;mark a 0 1;mark a 0 5;mark a 0 6;mark a 0;");
        int[][] near = {{1, 0}, {2, 1}, {3, 5}, {4, 6}};
        for (int reach = 0; reach <= 5; reach++) {
            z.rule(3, reach);
            for (int[] row : near) {
                due("steps " + row[1] + " of " + reach, bit(row[1] <= reach), () -> z.two(0, row[0], 4));
            }
            due("no way", 0, () -> z.two(0, 5, 4));
        }
    }

    private static void fields() {
        // palto and balto: letters 80, sounds 100, together 90.
        says("how many others are NEAR it with LIKENESS of LIKE at least");
        MarkField x = of("lands 1;mark palto 0 0;mark balto 0 0;mark palto 0 1;mark palto 0;");
        int[][] fields = {{0, 1}, {89, 1}, {90, 1}, {91, 0}, {100, 0}};
        for (int[] row : fields) {
            x.rule(0, row[0]);
            due("like " + row[0], row[1], () -> x.mark(0, 5));
        }
        due("none of itself", 0, () -> of("lands 1;mark palto 0 0;").mark(0, 5));
        MarkField full = of("lands 1;" + times("mark a 0 0;", 12));
        due("eleven others", 11, () -> full.mark(11, 5));
        says("CROWDED by: FIELD less ROOM, 0 at least.");
        for (int room = 0; room <= 9; room++) {
            full.rule(2, room);
            int want = 11 - room;
            due("room " + room, want, () -> full.mark(0, 6));
        }
        MarkField y = of("lands 1;mark palto 0 0;mark balto 0 0;");
        for (int room = 0; room <= 3; room++) {
            y.rule(2, room);
            int want = room == 0 ? 1 : 0;
            due("field 1, room " + room, want, () -> y.mark(0, 6));
        }
        says("ALIKE are two MARKS that are NEAR");
        due("near", 1, () -> of("lands 1;mark a 0 0;mark a 0 0;").two(0, 1, 5));
        due("not near", 0, () -> of("lands 1;like 0;mark a 0 0;mark a 0 1;").two(0, 1, 5));
        due("no classes", 0, () -> of("lands 1;like 0;mark a 0;mark a 0;").two(0, 1, 5));
        says("LIKENESS is LIKE and CROWD times the greater of both CROWDED, together (100 at most), or more");
        y.rule(1, 1);
        y.rule(2, 1);
        int[][] uncrowded = {{89, 1}, {90, 1}, {91, 0}};
        for (int[] row : uncrowded) {
            y.rule(0, row[0]);
            due("like " + row[0], row[1], () -> y.two(0, 1, 5));
        }
        y.rule(0, 80);
        y.rule(2, 0);
        int[][] crowded = {{0, 1}, {9, 1}, {10, 1}, {11, 0}, {20, 0}};
        for (int[] row : crowded) {
            y.rule(1, row[0]);
            due("80 and " + row[0], row[1], () -> y.two(0, 1, 5));
        }
        full.rule(0, 100);
        full.rule(1, 20);
        full.rule(2, 0);
        due("100 at most", 1, () -> full.two(0, 11, 5));
        // mentolo and mentol: 99 by an ear of 99.
        MarkField almost = of("lands 1;ear 99;like 90;crowd 20;room 0;mark mentolo 0 0;mark mentol 0 0;");
        due("99", 99, () -> almost.two(0, 1, 2));
        due("99 is not enough", 0, () -> almost.two(0, 1, 5));
        almost.rule(1, 9);
        due("99 of 99", 1, () -> almost.two(0, 1, 5));
        // Mark 1 is crowded by nobody but mark 2, mark 2 by both.
        MarkField z = of("lands 1;like 80;crowd 11;room 1;mark palto 0 0;mark balto 0 1;mark palto 0 0 1;");
        due("the greater one is the other's", 0, () -> z.two(1, 2, 5));
        due("or its own", 0, () -> z.two(2, 1, 5));
        due("100 for all that", 1, () -> z.two(0, 2, 5));
    }

    // ---- days

    private static void dueSince(MarkField x, int[][] rows) {
        for (int[] row : rows) {
            due("since on " + row[0], row[1], () -> x.here(0, 0, row[0], 0));
        }
    }

    private static void sinces() {
        says("A USE is LIVE from its first day to LAPSE days behind its last one.");
        dueSince(of("lands 1;lapse 5;mark a 9999;use 0 0 10 20;"),
                new int[][] {{9, NONE}, {10, 10}, {20, 10}, {25, 10}, {26, NONE}});
        dueSince(of("lands 1;lapse 0;mark a 9999;use 0 0 10 10;"), new int[][] {{9, NONE}, {10, 10}, {11, NONE}});
        dueSince(of("lands 1;lapse 999;mark a 9999;use 0 0 10 20;"), new int[][] {{1019, 10}, {1020, NONE}});
        dueSince(of("lands 1;lapse 999;mark a 9999;use 0 0 0 9999;"), new int[][] {{0, 0}, {9999, 0}});
        says("of its USES there that begin by that day");
        dueSince(of("lands 1;mark a 9999;use 0 0 50 60;use 0 1 10 20;"),
                new int[][] {{15, NONE}, {49, NONE}, {50, 50}});
        dueSince(of("lands 1;lapse 0;mark a 9999;use 0 0 10 20;use 0 0 15 30;"),
                new int[][] {{14, 10}, {15, 10}, {30, 10}});
        says("if none is LIVE on it, none");
        dueSince(of("lands 1;mark a 0;"), new int[][] {{0, NONE}, {9999, NONE}});
        dueSince(of("lands 1;lapse 0;mark a 0;use 0 0 10 20;use 0 0 22 30;"), new int[][] {{21, NONE}, {31, NONE}});
        says("the least day, from which to that one some of these is LIVE on each");
        dueSince(of("lands 1;lapse 3;mark a 9999;use 0 0 1 5;use 0 0 9 9;"), new int[][] {{8, 1}, {9, 1}, {12, 1}});
        dueSince(of("lands 1;lapse 3;mark a 9999;use 0 0 1 5;use 0 0 10 10;"),
                new int[][] {{8, 1}, {9, NONE}, {10, 10}});
        // Twelve in a row, told from the last one on or from the first: the way back goes through all.
        StringBuilder falling = new StringBuilder("lands 1;lapse 0;mark a 9999;");
        StringBuilder rising = new StringBuilder("lands 1;lapse 0;mark a 9999;");
        for (int k = 0; k < 12; k++) {
            rising.append("use 0 0 ").append(10 * k).append(' ').append(10 * k + 9).append(';');
            falling.append("use 0 0 ").append(110 - 10 * k).append(' ').append(119 - 10 * k).append(';');
        }
        int[][] ends = {{0, 0}, {55, 0}, {119, 0}, {120, NONE}};
        dueSince(of(falling.toString()), ends);
        dueSince(of(rising.toString()), ends);
        dueSince(of("lands 1;lapse 0;mark a 9999;use 0 0 5 6;use 0 0 1 30;use 0 0 8 9;use 0 0 0 0;"),
                new int[][] {{30, 0}, {9, 0}, {0, 0}, {31, NONE}});
    }

    private static void priorities() {
        says("PRIORITY: the lesser of SINCE and FILED (if it is by that day); none.");
        MarkField x = of("lands 1;lapse 0;mark a 15;use 0 0 10 20;use 0 0 30 40;");
        int[][] rows = {{9, NONE}, {10, 10}, {14, 10}, {15, 10}, {20, 10}, {21, 15}, {30, 15}, {9999, 15}};
        for (int[] row : rows) {
            due("half 0 on " + row[0], row[1], () -> x.here(0, 0, row[0], 1));
        }
        due("half 1 ahead of filing", NONE, () -> x.here(0, 1, 14, 1));
        due("half 1 on that day", 15, () -> x.here(0, 1, 15, 1));
        due("both 0", 0, () -> of("lands 1;mark a 0;use 0 0 0 0;").here(0, 0, 0, 1));
        says("SENIOR in a HALF on a day is of two with PRIORITY the lesser PRIORITY, of like ones the lesser number.");
        MarkField y = of("lands 1;mark abc 20 0;mark abc 20 0;mark abc 19 0;room 9;");
        int[] order = {2, 0, 1};
        for (int k = 0; k < 3; k++) {
            int rank = k;
            due("rank " + k, order[k], () -> y.ranked(0, 20, rank));
        }
        says("They stand AGAINST one another there, if both have PRIORITY, are ALIKE, and there is no CONSENT.");
        MarkField z = of("lands 1;mark abc 10 0;mark abc 20 0;mark zzz 5 0;");
        due("one alone", 5, () -> z.holders(0, 19));
        due("two", 5, () -> z.holders(0, 20));
        z.consent(1, 0, true);
        due("with consent", 7, () -> z.holders(0, 20));
        says("HOLDS: with PRIORITY there, and no SENIOR one AGAINST that HOLDS there.");
        // Each is alike to its neighbours in the row alone; the second and fourth are refused.
        MarkField w = of("lands 1;mark abc 1 0;mark abc 2 0 1;mark abc 3 1 2;mark abc 4 2 3;mark abc 5 3;");
        due("ahead of all", 0, () -> w.holders(0, 0));
        due("all five", 21, () -> w.holders(0, 5));
        due("the second is refused for the first", 0, () -> w.here(1, 0, 5, 2));
        due("the third holds", NONE, () -> w.here(2, 0, 5, 2));
        says("REFUSED is a MARK there with PRIORITY that doesn't HOLD");
        due("halves of the second", 3, () -> w.halves(1, 2, 2));
        due("without priority", 0, () -> w.halves(1, 1, 2));
        due("one that holds", 0, () -> w.halves(0, 5, 2));
        says("all over, if it has PRIORITY in some HALF, and HOLDS none");
        MarkField v = of("lands 1;lapse 0;mark abc 10 0;mark abc 20 0;use 1 0 12 13;use 1 1 5 5;");
        due("by use in one half", 2, () -> v.refused(12, 0));
        due("without priority", 0, () -> v.refused(14, 0));
        due("by filing in both", 2, () -> v.refused(20, 0));
        v.use(1, 1, 5, 30);
        due("it holds one", 0, () -> v.refused(20, 0));
    }

    // ---- questions, acts, images

    private static void questions() {
        says("A QUESTION is a TEXT of at most 200 bytes");
        MarkField x = of("lands 1;mark abc 7 0;mark xx 9999 1 2;mark hw 20;use 1 0 1 2;");
        dueAnswer(x, "many" + times(" ", 190) + "mark<2", 0, 2);
        put(x, "many" + times(" ", 191) + "mark<2");
        due("201", NO_ARGUMENT, () -> x.ask(201, 0));
        due("cut to 200", HIDDEN - 1, () -> x.ask(200, 0));
        says("('many' | 'first') TEST");
        dueQuestionFault("mark=0", 1, 0);
        dueQuestionFault("many", 1, 4);
        dueQuestionFault("first ", 1, 6);
        dueQuestionFault("many first mark=0", 1, 5);
        says("TEST: BOTH ('or' BOTH)*.");
        dueAnswer(x, "many mark=0", 0, 1);
        dueAnswer(x, "many mark=0 or mark=1 or mark=2", 0, 3);
        dueQuestionFault("many mark=0 or", 1, 14);
        dueQuestionFault("many or mark=0", 1, 5);
        dueQuestionFault("many mark=0 mark=0", 1, 12);
        says("BOTH: FACT ('and' FACT)*.");
        dueAnswer(x, "many mark<2 and mark>0 and uses=1", 0, 1);
        dueAnswer(x, "many mark=0 or mark=1 and mark=2", 0, 1);
        dueAnswer(x, "many mark=0 and mark=1 or mark=2", 0, 1);
        dueAnswer(x, "many mark=2 or mark=0 and mark=0 or mark=1 and mark=0", 0, 2);
        dueQuestionFault("many mark=0 and", 1, 15);
        dueQuestionFault("many and", 1, 5);
        says("FACT: 'not' FACT | '(' TEST ')' | VALUE ('<' | '=' | '>') VALUE.");
        dueAnswer(x, "many not mark=0 and mark<2", 0, 1);
        dueAnswer(x, "many not (mark=0 and mark<2)", 0, 2);
        dueAnswer(x, "many (mark=0 or mark=1) and mark>0", 0, 1);
        dueAnswer(x, "many mark<1", 0, 1);
        dueAnswer(x, "many mark>1", 0, 1);
        dueAnswer(x, "many 1<1 or 1>1", 0, 0);
        dueAnswer(x, "many 1=1", 0, 3);
        dueQuestionFault("many ()", 1, 6);
        dueQuestionFault("many (mark=0", 1, 12);
        dueQuestionFault("many mark=0)", 1, 11);
        dueQuestionFault("many (mark=0))", 1, 13);
        dueQuestionFault("many mark", 1, 9);
        dueQuestionFault("many mark=", 1, 10);
        dueQuestionFault("many mark<=1", 1, 10);
        dueQuestionFault("many mark=(1)", 1, 10);
        dueQuestionFault("many 1 and 1", 1, 7);
        dueQuestionFault("many not", 1, 8);
    }

    private static void values() {
        MarkField x = of("lands 2;lapse 0;mark abc 7 0;mark abc 9999 0 1 2;mark hw 20;use 1 3 1 8;use 1 0 20 20;");
        says("NUMBER (0 to 9999)");
        dueAnswer(x, "many 9999=filed", 0, 1);
        dueAnswer(x, "many 0000=mark", 0, 1);
        dueQuestionFault("many 10000=filed", 2, 5);
        dueQuestionFault("many filed=10000", 2, 11);
        dueQuestionFault("many 4294967296=mark", 2, 5);
        says("'mark' (its number), 'filed', 'classes' (how many), 'uses', 'length' (of its NAME), 'sounds' (how many), "
                + "'field'");
        dueAnswer(x, "first mark=2", 0, 2);
        dueAnswer(x, "first filed=20", 0, 2);
        dueAnswer(x, "first classes=3", 0, 1);
        dueAnswer(x, "first classes=0", 0, 2);
        dueAnswer(x, "first uses=2", 0, 1);
        dueAnswer(x, "first length=2", 0, 2);
        dueAnswer(x, "first sounds=0", 0, 2);
        dueAnswer(x, "many sounds=3", 0, 2);
        dueAnswer(x, "many field=1", 0, 2);
        dueAnswer(x, "first field=0", 0, 2);
        says("'holds' (HALVES on the day that is asked), 'refused' (HALVES then)");
        // On day 8 mark 1 holds half 3 by use, and mark 0 the other three; on day 9 mark 0 all four.
        dueAnswer(x, "first holds=3 and refused=1", 8, 0);
        dueAnswer(x, "first holds=1 and refused=0", 8, 1);
        dueAnswer(x, "first holds=4 and refused=0", 9, 0);
        dueAnswer(x, "many holds=0 and refused=0", 9, 2);
        dueAnswer(x, "first refused=1 and holds=0", 20, 1);
        dueAnswer(x, "first refused=4", 9999, 1);
        says("FAULTS as in 1 (3: the 7th of 'not', '(' that are open at once, 'not' till its FACT ends)");
        dueAnswer(x, "many " + times("not ", 6) + "mark=0", 0, 1);
        dueAnswer(x, "many " + times("(", 6) + "mark=0" + times(")", 6), 0, 1);
        dueAnswer(x, "many not(not(not(mark=0)))and not(not(not(mark=1)))", 0, 1);
        dueAnswer(x, "many (((((not mark=0 and not mark=1)))))", 0, 1);
        dueAnswer(x, "many not not not not not not mark=0 or not not not not not not mark=1", 0, 2);
        dueQuestionFault("many " + times("not ", 7) + "mark=0", 3, 29);
        dueQuestionFault("many " + times("(", 7) + "mark=0" + times(")", 7), 3, 11);
        dueQuestionFault("many not(not(not(not mark=0)))", 3, 17);
        dueQuestionFault("many not(not(not((mark=0))))", 3, 17);
        dueQuestionFault("many (((((not mark=0 and not (mark=1))))))", 3, 29);
        dueQuestionFault("many mark (((((((", 1, 10);
        dueQuestionFault("many ((((((mark not", 1, 16);
        says("It is asked of all MARKS: for how many it holds; the first one (NONE).");
        dueAnswer(x, "many 0=0", 0, 3);
        dueAnswer(x, "first 0=0", 0, 0);
        dueAnswer(x, "first mark>0", 0, 1);
        dueAnswer(x, "many 0=1", 0, 0);
        dueAnswer(x, "first 0=1", 0, NONE);
        MarkField none = new MarkField();
        dueAnswer(none, "many 0=0", 0, 0);
        dueAnswer(none, "first 0=0", 0, NONE);
        MarkField full = of(TWELVE);
        dueAnswer(full, "many 0=0", 0, 12);
        dueAnswer(full, "first mark=11", 0, 11);
    }

    private static void actsAndImages() {
        says("ACTS: file(), use(), consent(), drop(), rule(), near()");
        MarkField x = of("lands 1;mark a 0;mark b 0;");
        int n = put(x, "new");
        due("file", 2, () -> x.file(n, 0, 0));
        due("use", 0, () -> x.use(0, 0, 1, 2));
        due("consent", 0, () -> bit(x.consent(0, 1, true)));
        due("drop", 2, () -> x.drop(2));
        due("rule", 60, () -> x.rule(0, 1));
        due("near", 0, () -> bit(x.near(0, 1, true)));
        due("six acts", 6, () -> x.count(11));
        says("the latest 12 that were kept can be UNDONE, the latest first");
        MarkField y = of("lands 1;");
        for (int k = 1; k <= 30; k++) {
            y.rule(4, k);
            int kept = Math.min(k, 12);
            due("kept behind " + k, kept, () -> y.count(11));
        }
        for (int k = 11; k >= 0; k--) {
            int left = k;
            due("left", left, () -> y.undo());
            due("lapse", left + 18, () -> y.count(9));
        }
        due("none is left", NONE, () -> y.undo());
        due("lapse as before", 18, () -> y.count(9));
        says("An IMAGE keeps all but ACTS, the tape and faults.");
        MarkField z = of("lands 3;near 0 9;mark abc 5 0;mark abc 6 1;use 0 5 1 2;consent 0 1;like 7;crowd 6;room 5;"
                + "reach 4;lapse 3;ear 2;");
        String before = seen(z);
        z.image();
        int m = put(z, "lands 1;mark zz 0;");
        z.register(m);
        z.back();
        due("all is as before", 1, () -> bit(seen(z).equals(before)));
        z.rule(0, 1);
        z.image();
        z.rule(0, 2);
        put(z, "many");
        z.ask(4, 0);
        put(z, "rest");
        due("back", 1, () -> bit(z.back()));
        due("acts are none", 0, () -> z.count(11));
        due("the tape is what it was", 20, () -> z.count(12));
        due("the fault, too", 4, () -> z.fault());
        due("like is that of the image", 1, () -> z.count(5));
    }

    private static int file(MarkField x, String name, int classes, int day) {
        return x.file(put(x, name), classes, day);
    }

    /** What follows from names, classes and rules: all of it is told anew behind each act. */
    private static void dueFollows(String what, MarkField x, int alike, int field, int group) {
        due(what + ": alike", alike, () -> x.count(13));
        due(what + ": field of 0", field, () -> x.mark(0, 5));
        due(what + ": group of 0", group, () -> x.group(0));
    }

    private static void whatFollows() {
        says("ACTS: file(), use(), consent(), drop(), rule(), near()");
        MarkField x = of("lands 1;mark abc 5 0;mark zzz 5 1;");
        x.image();
        dueFollows("at first", x, 0, 0, 1);
        file(x, "abc", 2, 5);
        dueFollows("filed", x, 0, 0, 1);
        x.near(0, 1, true);
        dueFollows("neighbours", x, 0, 0, 1);
        x.rule(3, 1);
        dueFollows("reach", x, 1, 1, 5);
        x.rule(0, 0);
        dueFollows("like", x, 3, 2, 7);
        x.rule(0, 60);
        dueFollows("like again", x, 1, 1, 5);
        x.drop(1);
        dueFollows("dropped", x, 1, 1, 3);
        due("holders", 1, () -> x.holders(0, 5));
        x.use(1, 0, 1, 2);
        due("holders by use", 2, () -> x.holders(0, 5));
        x.consent(0, 1, true);
        due("holders by consent", 3, () -> x.holders(0, 5));
        x.near(0, 1, false);
        dueFollows("no neighbours", x, 0, 0, 1);
        x.undo();
        dueFollows("undone", x, 1, 1, 3);
        x.undo();
        due("holders without consent", 2, () -> x.holders(0, 5));
        x.undo();
        due("holders without the use", 1, () -> x.holders(0, 5));
        x.undo();
        dueFollows("three again", x, 1, 1, 5);
        due("sounds of zzz", 1, () -> x.mark(1, 4));
        due("sounds of abc", 3, () -> x.mark(2, 4));
        x.back();
        dueFollows("back", x, 0, 0, 1);
        due("sounds of abc", 3, () -> x.mark(0, 4));
        file(x, "abc", 1, 6);
        dueFollows("filed again", x, 1, 1, 5);
        // The new one stands in the place of another one, and is heard anew.
        x.drop(2);
        file(x, "xabc", 1, 6);
        due("sounds of xabc", 4, () -> x.mark(2, 4));
        due("likeness of letters", 75, () -> x.two(0, 2, 0));
        // One that is no more is refused nowhere and shares nothing.
        MarkField y = of("lands 1;lapse 0;mark abc 9 0;mark abc 9 0;use 0 1 1 2;use 1 0 1 2;");
        due("a land is shared", 1, () -> y.shared(1));
        due("one is refused", 2, () -> y.refused(9, 0));
        y.drop(1);
        due("none is refused", 0, () -> y.refused(9, 0));
        due("none is the first of them", NONE, () -> y.refused(9, 1));
        y.undo();
        due("shared again", 1, () -> y.shared(1));
        y.drop(1);
        due("shared no more", 0, () -> y.shared(1));
    }

    private static void constants() {
        says("`NONE = -1`: There is none.");
        due("NONE", -1, () -> NONE);
        due("no mark", -1, () -> new MarkField().refused(0, 1));
        says("`HIDDEN = -1000000000`: No text: an answer.");
        due("HIDDEN", -1000000000, () -> HIDDEN);
        due("no name", -1000000000, () -> new MarkField().file(0, 0, 0));
    }

    public static void main(String[] args) {
        part("Terms");
        lands();
        classesAndMarks();
        daysAndRules();
        tokens();
        lines();
        faults();
        wrongNumbers();
        sounds();
        likeness();
        goods();
        fields();
        sinces();
        priorities();
        questions();
        values();
        actsAndImages();
        whatFollows();
        constants();
        endOfPromises();
    }
}
