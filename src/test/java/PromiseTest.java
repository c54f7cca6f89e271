/** For each promise of the document its ordinary answers, its edges and its wrong inputs. */
public final class PromiseTest extends Due {
    private static void newObject() {
        MarkField x = new MarkField();
        int[] want = {1, 2, 0, 0, 0, 60, 5, 2, 0, 30, 50, 0, 0, 0};
        for (int what = 0; what < want.length; what++) {
            int asked = what;
            due("count of a new object " + what, want[what], () -> x.count(asked));
        }
        due("fault of a new object", NONE, () -> x.fault());
        due("undo of a new object", NONE, () -> x.undo());
        due("back of a new object", 0, () -> bit(x.back()));
        due("holders of a new object", 0, () -> x.holders(1, 0));
        due("half 2 of a new object", NO_ELEMENT, () -> x.holders(2, 0));
        due("mark of a new object", NO_ELEMENT, () -> x.mark(0, 0));
    }

    private static void feeding() {
        MarkField x = new MarkField();
        for (int k = 1; k <= 35; k++) {
            int want = 20 * k;
            due("feed " + k, want, () -> x.feed(0, -1, 1, 2, 3));
        }
        due("feed 36", NONE, () -> x.feed(0, 0, 0, 0, 0));
        due("tape is full", 700, () -> x.count(12));
        due("too many", NO_ARGUMENT, () -> x.register(701));
        due("the tape stays", 700, () -> x.count(12));
        // The bytes of a number come the highest first, those above 127 too.
        MarkField y = new MarkField();
        due("feed name", 20, () -> y.feed(0x61626364, 0xe9000000, 0, 0, 0));
        due("file abcd", 0, () -> y.file(4, 0, 0));
        for (int k = 0; k < 4; k++) {
            int place = k;
            due("letter " + k, k + 1, () -> y.letter(0, place, false));
        }
        due("feed high", 20, () -> y.feed(0x616263e9, 0, 0, 0, 0));
        due("no name", HIDDEN, () -> y.file(4, 0, 0));
    }

    private static void registering() {
        MarkField x = of("lands 3;near 0 1;near 1 0;mark mark 007 9 0;\nmark\nuse 9999;"
                + "use 0 5 0 9999;consent 1 0;consent 0 1;like 1;like 100;crowd 20;room 9;reach 5;"
                + "lapse 999;ear 0;mark lands0 0;");
        int[] want = {3, 6, 3, 1, 1, 100, 20, 9, 5, 999, 0, 0, 0, 0};
        for (int what = 0; what < want.length; what++) {
            int asked = what;
            due("count of a register " + what, want[what], () -> x.count(asked));
        }
        due("filed 007", 7, () -> x.mark(0, 0));
        due("classes 9 0", 513, () -> x.mark(0, 1));
        due("name glued to its day", 0, () -> x.mark(2, 0));
        due("and its class", 1, () -> x.mark(2, 1));
        // A second one takes the place of the first with all of its rules.
        x.rule(1, 3);
        x.image();
        int n = put(x, "lands 1 ;");
        due("an empty register", 0, () -> x.register(n));
        due("rules are as at first", 60, () -> x.count(5));
        due("no neighbours", 0, () -> x.count(3));
        due("no acts", 0, () -> x.count(11));
        due("nothing to undo", NONE, () -> x.undo());
        due("the image is kept", 1, () -> bit(x.back()));
        due("with its marks", 3, () -> x.count(2));
        // Only the first n bytes count, and all are gone.
        put(x, "lands 2;mark a 0;zzz");
        due("first 8 bytes", 0, () -> x.register(8));
        due("all gone", 0, () -> x.count(12));
        due("n below 0", NO_ARGUMENT, () -> x.register(-1));
        int m = put(x, "lands 2;near 4 5;");
        due("n above the tape", NO_ARGUMENT, () -> x.register(21));
        due("nothing changed", 20, () -> x.count(12));
        due("now it is read", 0, () -> x.register(m));
        due("near", 1, () -> x.steps(5, 4));
        MarkField full = of("lands 6;" + times("mark a 0;", 12) + times("use 11 11 0 0;", 12));
        due("twelve marks", 12, () -> full.count(2));
        due("twelve uses", 12, () -> full.mark(11, 2));
        MarkField classes = of("lands 1;mark a 0 9 8 7 6 5 4 3 2 1 0;");
        due("ten classes", 1023, () -> classes.mark(0, 1));
    }

    private static void faultsThatCannotStand() {
        dueFault("", 1, 0);
        dueFault("   ", 1, 3);
        dueFault("land 1;", 1, 0);
        dueFault("lands", 1, 5);
        dueFault("lands ;", 1, 6);
        dueFault("lands 1", 1, 7);
        dueFault("lands 1 \n", 1, 9);
        dueFault("lands 1;;", 1, 8);
        dueFault("lands 1;lands 1;", 1, 8);
        dueFault("lands 1;foo", 1, 8);
        dueFault("lands 1;Mark a 0;", 1, 8);
        dueFault("lands 1;marks a 0;", 1, 8);
        dueFault("lands 1;mar a 0;", 1, 8);
        dueFault("lands 1;bark a 0;", 1, 8);
        dueFault("lands 1;ears 0;", 1, 8);
        dueFault("lands\t1;", 1, 5);
        dueFault("lands 1;mark 5 0;", 1, 13);
        dueFault("lands 1;mark a b;", 1, 15);
        dueFault("lands 1;mark a 0 b;", 1, 17);
        dueFault("lands 1;mark a 0", 1, 16);
        dueFault("lands 1;mark a 0 1", 1, 18);
        dueFault("lands 1;near 1;", 1, 14);
        dueFault("lands 1;near a 1;", 1, 13);
        dueFault("lands 1;use;", 1, 11);
        dueFault("lands 1;mark a 0;use 0 0 1;", 1, 26);
        dueFault("lands 1;mark a 0;use 0 0 1 2 3;", 1, 29);
        dueFault("lands 1;like;", 1, 12);
        dueFault("lands 1;like 5 5;", 1, 15);
        dueFault("lands 1;like 5-;", 1, 14);
        dueFault("lands 1;" + (char) 200, 1, 8);
        dueFault("lands 1;" + (char) 0, 1, 8);
    }

    private static void otherFaults() {
        dueFault("lands 0;", 2, 6);
        dueFault("lands 7;", 2, 6);
        dueFault("lands 4294967297;", 2, 6);
        dueFault("lands 99999999999999999999999999;", 2, 6);
        dueFault("lands 1;near 10 1;", 2, 13);
        dueFault("lands 1;near 1 10;", 2, 15);
        dueFault("lands 1;near 01 1;", 2, 16);
        dueFault("lands 1;mark a 10000;", 2, 15);
        dueFault("lands 1;mark a 0 10;", 2, 17);
        dueFault("lands 1;mark a 0 1 2 01;", 2, 21);
        dueFault("lands 1;consent 0 1;", 2, 16);
        dueFault("lands 1;mark a 0;consent 0 0;", 2, 27);
        dueFault("lands 1;mark a 0;consent 0 1;mark b 0;", 2, 27);
        dueFault("lands 1;use 0 0 0 0;mark a 0;", 2, 12);
        dueFault("lands 1;mark a 0;use 1 0 0 0;", 2, 21);
        dueFault("lands 2;mark a 0;use 0 4 0 0;", 2, 23);
        dueFault("lands 2;mark a 0;use 0 3 10000 0;", 2, 25);
        dueFault("lands 2;mark a 0;use 0 3 9 8;", 2, 27);
        dueFault("lands 2;mark a 0;use 0 3 9 10000;", 2, 27);
        dueFault("lands 1;like 101;", 2, 13);
        dueFault("lands 1;crowd 21;", 2, 14);
        dueFault("lands 1;room 10;", 2, 13);
        dueFault("lands 1;reach 6;", 2, 14);
        dueFault("lands 1;lapse 1000;", 2, 14);
        dueFault("lands 1;ear 101;", 2, 12);
        dueFault("lands 1;mark abcdefghijk 0;", 3, 13);
        dueFault("lands 1;mark abcdefghijk", 3, 13);
        dueFault("lands 1;" + times("mark a 0;", 12) + "mark", 4, 116);
        dueFault("lands 1;mark a 0;" + times("use 0 0 0 0;", 12) + "use 0", 4, 165);
        dueFault("lands 1;mark a 0;mark b 0;" + times("use 0 0 0 0;", 12) + "use 1 0 0 0;use 0 9", 4, 186);
    }

    private static void faultPlaces() {
        MarkField x = new MarkField();
        int n = put(x, "lands 9;");
        due("a fault", -12, () -> x.register(n));
        due("its place", 6, () -> x.fault());
        due("a call that throws", NO_ARGUMENT, () -> x.register(5));
        due("changes no place", 6, () -> x.fault());
        due("nor does a question that throws", NO_ARGUMENT, () -> x.ask(0, -1));
        due("as that", 6, () -> x.fault());
        x.image();
        x.rule(0, 1);
        x.undo();
        x.back();
        due("nor do back and undo", 6, () -> x.fault());
        int m = put(x, "many mark=0");
        due("a question without one", 0, () -> x.ask(m, 0));
        due("takes it away", NONE, () -> x.fault());
        int k = put(x, "many mark=");
        due("a question with one", HIDDEN - 1, () -> x.ask(k, 0));
        due("sets it", 10, () -> x.fault());
        int l = put(x, "lands 1;");
        due("a register without one", 0, () -> x.register(l));
        due("takes it away, too", NONE, () -> x.fault());
    }

    private static void counting() {
        MarkField x = of("lands 2;mark abc 0 1;mark abc 0 1;mark abc 0 1;near 1 2;near 2 3;consent 0 2;");
        due("alike", 3, () -> x.count(13));
        due("neighbours", 2, () -> x.count(3));
        due("consents", 1, () -> x.count(4));
        due("count -1", NO_ELEMENT, () -> x.count(-1));
        due("count 14", NO_ELEMENT, () -> x.count(14));
        put(x, "abc");
        due("tape", 20, () -> x.count(12));
    }

    private static void marks() {
        MarkField x = of("lands 1;room 1;mark kex 12 0 3;mark kix 9 3;mark kyx 0 3;mark zzz 0 3;use 2 1 4 5;");
        int[] want = {12, 9, 0, 3, 2, 2, 1};
        for (int what = 0; what < want.length; what++) {
            int asked = what;
            // kex, kix and kyx are heard alike; letters 100 - ceil(100 / 3): together 83.
            due("mark(0, " + what + ")", want[what], () -> x.mark(0, asked));
        }
        due("uses", 1, () -> x.mark(2, 2));
        due("zzz is in no field", 0, () -> x.mark(3, 5));
        due("and not crowded", 0, () -> x.mark(3, 6));
        due("mark(4)", NO_ELEMENT, () -> x.mark(4, 0));
        due("mark(-1)", NO_ELEMENT, () -> x.mark(-1, 0));
        due("mark(0, 7)", NO_ELEMENT, () -> x.mark(0, 7));
        due("mark(0, -1)", NO_ELEMENT, () -> x.mark(0, -1));
    }

    private static void letters() {
        dueSounds("phthchcksh", "FTKS");
        dueSounds("gha", "");
        dueSounds("xxxxxxxxxx", "KSKSKSKSKSKSKSKSKSKS");
        dueSounds("cecicyca", "SK");
        dueSounds("ce", "S");
        dueSounds("ci", "S");
        dueSounds("cy", "S");
        dueSounds("co", "K");
        dueSounds("c", "K");
        dueSounds("ac", "VK");
        dueSounds("kqgjk", "K");
        dueSounds("szfvbpdtmn", "SFPTMN");
        dueSounds("lr", "LR");
        dueSounds("yaeiou", "V");
        dueSounds("aya", "V");
        dueSounds("hw", "");
        dueSounds("ha", "");
        dueSounds("papa", "P");
        dueSounds("pab", "P");
        dueSounds("schtth", "SKT");
        dueSounds("kch", "K");
        dueSounds("cch", "K");
        dueSounds("cck", "K");
        dueSounds("gg", "K");
        dueSounds("xce", "KS");
        dueSounds("lxl", "LKSL");
        dueSounds("gphx", "KFKS");
        MarkField x = of("lands 1;mark az 0;");
        due("a", 1, () -> x.letter(0, 0, false));
        due("z", 26, () -> x.letter(0, 1, false));
        due("behind", NONE, () -> x.letter(0, 2, false));
        due("far behind", NONE, () -> x.letter(0, 2147483647, true));
        due("k below 0", NO_ELEMENT, () -> x.letter(0, -1, false));
        due("k below 0", NO_ELEMENT, () -> x.letter(0, -1, true));
        due("no mark", NO_ELEMENT, () -> x.letter(1, 0, false));
        due("no mark", NO_ELEMENT, () -> x.letter(-1, 0, true));
    }

    private static void uses() {
        MarkField x = of("lands 2;mark a 0;mark b 0;use 1 3 7 9;use 1 0 5 5;");
        int[] want = {3, 7, 9, 0, 5, 5};
        for (int k = 0; k < 6; k++) {
            int asked = k;
            due("used " + k, want[k], () -> x.used(1, asked / 3, asked % 3));
        }
        due("use 2", NO_ELEMENT, () -> x.used(1, 2, 0));
        due("use -1", NO_ELEMENT, () -> x.used(1, -1, 0));
        due("use of 0", NO_ELEMENT, () -> x.used(0, 0, 0));
        due("mark 2", NO_ELEMENT, () -> x.used(2, 0, 0));
        due("what 3", NO_ELEMENT, () -> x.used(1, 0, 3));
        due("what -1", NO_ELEMENT, () -> x.used(1, 0, -1));
    }

    /** Likeness of letters and of sounds, both ways round. */
    private static void dueLikeness(String one, String other, int letters, int sounds, int both) {
        MarkField x = of("lands 1;ear 30;mark " + one + " 0;mark " + other + " 0;");
        due("letters of " + one + " " + other, letters, () -> x.two(0, 1, 0));
        due("letters of " + other + " " + one, letters, () -> x.two(1, 0, 0));
        due("sounds of " + one + " " + other, sounds, () -> x.two(0, 1, 1));
        due("sounds of " + other + " " + one, sounds, () -> x.two(1, 0, 1));
        due("names " + one + " " + other, both, () -> x.two(0, 1, 2));
    }

    private static void likeness() {
        dueLikeness("abc", "abc", 100, 100, 100);
        // Kin of letters: 50 less, all but one of these not kin of sounds.
        dueLikeness("i", "l", 50, 0, 35);
        dueLikeness("ai", "aj", 75, 50, 67);
        dueLikeness("m", "n", 50, 50, 50);
        dueLikeness("u", "v", 50, 0, 35);
        dueLikeness("c", "o", 50, 0, 35);
        dueLikeness("b", "d", 50, 0, 35);
        dueLikeness("p", "q", 50, 0, 35);
        dueLikeness("e", "c", 50, 0, 35);
        dueLikeness("e", "o", 0, 100, 30);
        dueLikeness("j", "l", 0, 0, 0);
        dueLikeness("u", "y", 0, 100, 30);
        // Kin of sounds.
        dueLikeness("p", "f", 0, 50, 15);
        dueLikeness("k", "s", 0, 50, 15);
        dueLikeness("l", "r", 0, 50, 15);
        dueLikeness("t", "s", 0, 50, 15);
        dueLikeness("t", "k", 0, 0, 0);
        // 7 letters, one goes: 100 less ceil(100 / 7) = 15.
        dueLikeness("mentolo", "mentol", 85, 100, 89);
        dueLikeness("hw", "wh", 0, 100, 30);
        dueLikeness("hw", "l", 0, 0, 0);
        // The a goes and comes, 4 in all; of the sounds V P K T only the V goes.
        dueLikeness("abcd", "bcda", 50, 75, 57);
        dueLikeness("a", "zzzzzzzzzz", 0, 0, 0);
        // KSKS.. of twenty against none.
        dueLikeness("xxxxxxxxxx", "h", 0, 0, 0);
        dueLikeness("xxxxxxxxxx", "x", 10, 10, 10);
    }

    /** Of each two signs of a row: 100 the same one, 50 kin, else 0. */
    private static void dueKin(String signs, String kin, int what) {
        for (char one : signs.toCharArray()) {
            for (char other : signs.toCharArray()) {
                MarkField x = of("lands 1;mark " + one + " 0;mark " + other + " 0;");
                boolean related = kin.contains("" + one + other) || kin.contains("" + other + one);
                int want = one == other ? 100 : related ? 50 : 0;
                due("kin " + one + other, want, () -> x.two(0, 1, what));
            }
        }
    }

    private static void kin() {
        dueKin("abcdefghijklmnopqrstuvwxyz", "il ij mn uv co bd pq ec", 0);
        // One letter for each sound, V F K L M N P R S T.
        dueKin("afklmnprst", "pf ks mn lr ts", 1);
    }

    private static void twos() {
        MarkField x = of("lands 1;reach 2;near 0 1;near 1 2;near 2 3;mark abc 0 0;mark abc 0 2;mark abc 0 3;"
                + "mark abc 0;mark abc 0 3 9 1;mark abc 0 7;consent 1 2;");
        due("goods", 2, () -> x.two(0, 1, 3));
        due("near", 1, () -> x.two(0, 1, 4));
        due("goods", 3, () -> x.two(0, 2, 3));
        due("not near", 0, () -> x.two(2, 0, 4));
        due("not alike", 0, () -> x.two(2, 0, 5));
        due("no classes", NONE, () -> x.two(0, 3, 3));
        due("no classes", 0, () -> x.two(3, 0, 4));
        due("the nearest classes", 1, () -> x.two(0, 4, 3));
        due("one of both", 0, () -> x.two(2, 4, 3));
        due("no way", NONE, () -> x.two(0, 5, 3));
        due("not near", 0, () -> x.two(0, 5, 4));
        due("consent", 1, () -> x.two(2, 1, 6));
        due("no consent", 0, () -> x.two(0, 1, 6));
        due("alike for all that", 1, () -> x.two(1, 2, 5));
        due("with itself", NO_ELEMENT, () -> x.two(1, 1, 0));
        due("no mark", NO_ELEMENT, () -> x.two(6, 1, 0));
        due("no mark", NO_ELEMENT, () -> x.two(1, -1, 0));
        due("no what", NO_ELEMENT, () -> x.two(0, 1, -1));
        due("no what", NO_ELEMENT, () -> x.two(0, 1, 7));
    }

    private static void crowds() {
        // Five names of likeness 100; 'palto' and 'balto' 90 (letters 80, sounds 100).
        MarkField x = of("lands 1;like 80;crowd 5;room 2;mark palto 0 0;mark balto 0 0;mark palto 0 0;mark palto 0 0;");
        due("field", 3, () -> x.mark(0, 5));
        due("crowded", 1, () -> x.mark(0, 6));
        due("90 of 85", 1, () -> x.two(0, 1, 5));
        x.rule(1, 10);
        due("90 of 90", 1, () -> x.two(0, 1, 5));
        x.rule(1, 11);
        due("90 of 91", 0, () -> x.two(0, 1, 5));
        due("100 of 91", 1, () -> x.two(0, 2, 5));
        due("couples", 3, () -> x.count(13));
        x.rule(1, 20);
        x.rule(2, 0);
        due("100 of 100 at most", 1, () -> x.two(0, 2, 5));
        x.rule(0, 91);
        due("balto is in no field", 0, () -> x.mark(1, 5));
        x.rule(0, 90);
        due("LIKE at least", 3, () -> x.mark(1, 5));
        // The greater of both: mark 1 alone is in a field of one, mark 0 is crowded by others.
        MarkField y = of("lands 1;like 85;crowd 6;room 1;mark palto 0 0;mark balto 0 1;mark palto 0 0 1;");
        due("field of 0", 1, () -> y.mark(0, 5));
        due("field of 1", 1, () -> y.mark(1, 5));
        due("field of 2", 2, () -> y.mark(2, 5));
        due("90 of 91 for 2 is crowded", 0, () -> y.two(1, 2, 5));
        due("100 of 91", 1, () -> y.two(0, 2, 5));
    }

    private static void stepping() {
        MarkField x = of("lands 1;" + "near 0 1;near 1 2;near 2 3;near 3 4;near 4 5;near 5 6;near 6 7;near 7 8;near 8 9;");
        due("nine steps", 9, () -> x.steps(0, 9));
        due("nine back", 9, () -> x.steps(9, 0));
        x.near(9, 0, true);
        due("round", 1, () -> x.steps(0, 9));
        due("five", 5, () -> x.steps(0, 5));
        x.near(3, 4, false);
        due("the long way", 9, () -> x.steps(3, 4));
        x.near(7, 8, false);
        due("no way", NONE, () -> x.steps(3, 4));
        due("itself", 0, () -> x.steps(3, 3));
        due("class 10", NO_ELEMENT, () -> x.steps(10, 10));
        due("class -1", NO_ELEMENT, () -> x.steps(0, -1));
    }

    private static void sinces() {
        MarkField x = of("lands 1;lapse 3;mark a 50;use 0 0 10 12;use 0 0 16 16;use 0 0 30 31;use 0 1 13 20;use 0 0 21 21;");
        int[][] want = {{9, NONE}, {10, 10}, {15, 10}, {16, 10}, {19, 10}, {20, NONE}, {21, 21}, {24, 21},
            {25, NONE}, {30, 30}, {34, 30}, {35, NONE}};
        for (int[] row : want) {
            due("since on " + row[0], row[1], () -> x.here(0, 0, row[0], 0));
            due("priority on " + row[0], row[1], () -> x.here(0, 0, row[0], 1));
        }
        due("priority by filing", 50, () -> x.here(0, 0, 50, 1));
        due("not ahead of it", NONE, () -> x.here(0, 0, 49, 1));
        due("in both halves", 50, () -> x.here(0, 1, 9999, 1));
        x.use(0, 0, 48, 60);
        due("the lesser one", 48, () -> x.here(0, 0, 55, 1));
        due("since alone", 48, () -> x.here(0, 0, 55, 0));
        due("filed when it has lapsed", 50, () -> x.here(0, 0, 64, 1));
        // Within another one: the chain goes back over the longest one, in whatever order they came.
        MarkField y = of("lands 1;lapse 0;mark a 9999;use 0 0 8 9;use 0 0 2 30;use 0 0 31 40;use 0 0 0 1;use 0 0 42 42;");
        due("a chain", 0, () -> y.here(0, 0, 40, 0));
        due("its end", NONE, () -> y.here(0, 0, 41, 0));
        due("alone", 42, () -> y.here(0, 0, 42, 0));
        due("only what begins by then", 0, () -> y.here(0, 0, 1, 0));
        y.rule(4, 1);
        due("a gap forgiven", 0, () -> y.here(0, 0, 42, 0));
        MarkField z = of("lands 1;lapse 999;mark a 0;use 0 0 9000 9999;");
        due("the last day", 9000, () -> z.here(0, 0, 9999, 0));
    }

    private static void standing() {
        MarkField x = of("lands 1;mark abc 30 0;mark abc 20 0;mark abc 20 0;mark abc 10 0;consent 3 1;room 9;");
        due("3 holds", 1, () -> x.here(3, 0, 40, 3));
        due("1 holds by consent", 1, () -> x.here(1, 0, 40, 3));
        due("2 doesn't", 0, () -> x.here(2, 0, 40, 3));
        due("2 for 3, the most senior", 3, () -> x.here(2, 0, 40, 2));
        due("0 for 3", 3, () -> x.here(0, 1, 40, 2));
        due("1 for none", NONE, () -> x.here(1, 0, 40, 2));
        due("without priority for none", NONE, () -> x.here(0, 0, 29, 2));
        due("and holds nothing", 0, () -> x.here(0, 0, 29, 3));
        x.consent(3, 2, true);
        due("of like ones the lesser number", 1, () -> x.here(2, 0, 40, 2));
        // One that is refused stands in nobody's way: 1 for 3, so 2 holds beside.
        MarkField y = of("lands 1;like 80;mark abcd 1 0;mark abcd 2 0 1;mark abcd 3 1;");
        due("0 and 2", 5, () -> y.holders(0, 3));
        due("1 is refused for 0", 0, () -> y.here(1, 0, 3, 2));
        due("half 2", NO_ELEMENT, () -> y.here(0, 2, 0, 0));
        due("half -1", NO_ELEMENT, () -> y.here(0, -1, 0, 0));
        due("mark 3", NO_ELEMENT, () -> y.here(3, 0, 0, 0));
        due("what 4 ahead of the day", NO_ELEMENT, () -> y.here(0, 0, 10000, 4));
        due("what -1", NO_ELEMENT, () -> y.here(0, 0, 0, -1));
        due("day 10000", NO_ARGUMENT, () -> y.here(0, 0, 10000, 0));
        due("day -1", NO_ARGUMENT, () -> y.here(0, 0, -1, 3));
    }

    private static void halvesOfMarks() {
        MarkField x = of("lands 2;lapse 0;mark abc 10 0;mark abc 20 0;use 1 2 5 30;");
        due("priority of 1 on 15", 4, () -> x.halves(1, 15, 0));
        due("priority of 1 on 20", 15, () -> x.halves(1, 20, 0));
        due("held by 1 on 20", 4, () -> x.halves(1, 20, 1));
        due("refused to 1 on 20", 11, () -> x.halves(1, 20, 2));
        due("held by 0 on 20", 11, () -> x.halves(0, 20, 1));
        due("refused to 0 on 20", 4, () -> x.halves(0, 20, 2));
        due("before", 0, () -> x.halves(0, 9, 0));
        due("behind", 15, () -> x.halves(0, 31, 1));
        due("mark 2", NO_ELEMENT, () -> x.halves(2, 20, 0));
        due("what 3 ahead of the day", NO_ELEMENT, () -> x.halves(0, -1, 3));
        due("day", NO_ARGUMENT, () -> x.halves(0, 10000, 2));
        due("holders of 2", 2, () -> x.holders(2, 20));
        due("holders of 3", 1, () -> x.holders(3, 20));
        due("none yet", 0, () -> x.holders(3, 9));
        due("half 4 ahead of the day", NO_ELEMENT, () -> x.holders(4, -1));
        due("day of holders", NO_ARGUMENT, () -> x.holders(0, 10000));
    }

    private static void sharing() {
        MarkField x = of("lands 3;lapse 0;mark abc 10 0;mark abc 20 0;use 1 2 5 30;use 1 4 5 30;use 1 5 5 30;");
        due("land 1 alone", 2, () -> x.shared(20));
        due("not ahead of both", 0, () -> x.shared(9));
        due("only 1 holds in land 1 then, 0 the other half", 2, () -> x.shared(10));
        due("not behind it", 0, () -> x.shared(31));
        x.consent(0, 1, true);
        due("both hold both now", 0, () -> x.shared(20));
        due("but on day 15 not", 0, () -> x.shared(15));
        x.consent(0, 1, false);
        x.rule(0, 100);
        due("alike still", 2, () -> x.shared(20));
        MarkField y = of("lands 1;lapse 0;mark abc 99 0;mark abc 99 0;use 0 1 1 9;use 1 0 1 9;consent 0 1;");
        due("with consent they are alike, too", 1, () -> y.shared(5));
        MarkField w = of("lands 1;lapse 0;mark abc 99 0;mark abc 99 0;use 0 0 1 9;use 1 1 1 9;");
        due("the other way round", 1, () -> w.shared(5));
        MarkField z = of("lands 1;lapse 0;mark abc 99 0;mark xyz 99 0;use 0 1 1 9;use 1 0 1 9;");
        due("not alike", 0, () -> z.shared(5));
        due("day -1", NO_ARGUMENT, () -> z.shared(-1));
        due("day 10000", NO_ARGUMENT, () -> z.shared(10000));
    }

    private static void refusing() {
        MarkField x = of("lands 1;mark abc 10 0;mark abc 30 0;mark abc 20 0;mark abc 20 0;mark zzz 0 0;");
        due("on 30", 14, () -> x.refused(30, 0));
        due("filed first, the lesser number", 2, () -> x.refused(30, 1));
        due("on 20", 12, () -> x.refused(20, 0));
        due("on 10", 0, () -> x.refused(10, 0));
        due("none", NONE, () -> x.refused(10, 1));
        x.use(1, 1, 5, 9);
        due("1 holds a half", 12, () -> x.refused(30, 0));
        // By use: filed behind the day, and yet refused on it.
        MarkField y = of("lands 1;mark abc 10 0;mark abc 300 0;mark abc 200 0;use 1 0 20 30;use 2 1 20 30;");
        due("by use", 6, () -> y.refused(25, 0));
        due("the one filed first", 2, () -> y.refused(25, 1));
        MarkField z = of("lands 1;mark abc 9 0;mark abc 8 0;");
        due("mark 0 itself", 1, () -> z.refused(9, 0));
        due("first of one", 0, () -> z.refused(9, 1));
        due("what ahead of the day", NO_ELEMENT, () -> y.refused(-1, 2));
        due("what -1", NO_ELEMENT, () -> y.refused(0, -1));
        due("day", NO_ARGUMENT, () -> y.refused(10000, 0));
    }

    private static void firstDays() {
        MarkField x = of("lands 1;lapse 2;mark abc 100 0;mark abc 200 0;use 1 0 50 120;use 0 1 0 0;use 1 1 0 5;");
        due("1 by use", 50, () -> x.firstDay(1, 0));
        due("0 when 1 has lapsed", 123, () -> x.firstDay(0, 0));
        due("0 on day 0", 0, () -> x.firstDay(0, 1));
        due("1 when 0 has lapsed", 3, () -> x.firstDay(1, 1));
        MarkField y = of("lands 1;mark abc 9999 0;mark abc 9999 0;");
        due("the last day", 9999, () -> y.firstDay(0, 0));
        due("never", NONE, () -> y.firstDay(1, 0));
        MarkField z = of("lands 1;lapse 0;mark abc 0 0;mark abc 9 0;");
        due("never", NONE, () -> z.firstDay(1, 1));
        due("mark 2", NO_ELEMENT, () -> z.firstDay(2, 0));
        due("half 2", NO_ELEMENT, () -> z.firstDay(0, 2));
        due("half -1", NO_ELEMENT, () -> z.firstDay(0, -1));
        due("mark -1", NO_ELEMENT, () -> z.firstDay(-1, 0));
    }

    private static void dueWould(MarkField x, String name, int classes, int day, int[] want) {
        for (int what = 0; what < 4; what++) {
            int asked = what;
            int n = put(x, name);
            due("would " + name + " " + what, want[what], () -> x.would(n, classes, day, asked));
            due("tape behind would", 0, () -> x.count(12));
        }
        due("no act", 0, () -> x.count(11));
    }

    private static void woulds() {
        MarkField x = of("lands 2;lapse 0;mark zzz 0 0;mark abc 500 0;mark abc 400 0;use 1 3 10 20;use 2 0 15 30;");
        dueWould(x, "abc", 1, 5, new int[] {15, NONE, 2, 5});
        dueWould(x, "abc", 1, 10, new int[] {7, 1, 2, 31});
        dueWould(x, "abc", 1, 20, new int[] {6, 1, 2, 31});
        dueWould(x, "abc", 1, 21, new int[] {14, 2, 2, 31});
        dueWould(x, "abc", 1, 400, new int[] {0, 2, 2, NONE});
        dueWould(x, "abc", 2, 400, new int[] {15, NONE, 0, 400});
        dueWould(x, "abc", 0, 9999, new int[] {15, NONE, 0, 9999});
        dueWould(x, "abc", 1023, 31, new int[] {15, NONE, 2, 31});
        dueWould(x, "abcdefghijk", 1, 31, new int[] {HIDDEN, HIDDEN, HIDDEN, HIDDEN});
        dueWould(x, "ab c", 1, 31, new int[] {HIDDEN, HIDDEN, HIDDEN, HIDDEN});
        dueWould(x, "", 1, 31, new int[] {HIDDEN, HIDDEN, HIDDEN, HIDDEN});
        due("register as before", 3, () -> x.count(2));
        // With one more all are crowded: none of these is alike any more.
        MarkField y = of("lands 1;like 80;crowd 20;room 1;mark palto 0 0;mark balto 0 0;");
        due("alike without it", 1, () -> y.two(0, 1, 5));
        dueWould(y, "qalto", 1, 5, new int[] {3, NONE, 0, 5});
        dueWould(y, "palto", 1, 5, new int[] {0, 0, 2, NONE});
        // Twelve are no bar.
        MarkField full = of("lands 1;" + times("mark abc 7 0;", 12));
        dueWould(full, "abc", 1, 6, new int[] {3, NONE, 12, 6});
        dueWould(full, "abc", 1, 7, new int[] {0, 0, 12, NONE});
        put(x, "abc");
        due("what ahead of all", NO_ELEMENT, () -> x.would(-1, -1, -1, 4));
        due("what -1", NO_ELEMENT, () -> x.would(3, 1, 0, -1));
        due("classes", NO_ARGUMENT, () -> x.would(3, 1024, 0, 0));
        due("classes", NO_ARGUMENT, () -> x.would(3, -1, 0, 0));
        due("day", NO_ARGUMENT, () -> x.would(3, 1, 10000, 0));
        due("day", NO_ARGUMENT, () -> x.would(3, 1, -1, 0));
        due("n", NO_ARGUMENT, () -> x.would(21, 1, 0, 0));
        due("n", NO_ARGUMENT, () -> x.would(-1, 1, 0, 0));
        due("the tape stays", 20, () -> x.count(12));
    }

    private static void frees() {
        MarkField x = of("lands 1;lapse 0;reach 1;near 4 5;mark abc 50 0;mark abc 60 5;use 1 1 10 20;");
        int a = put(x, "abc");
        due("free on 9", 1023, () -> x.free(a, 9));
        int b = put(x, "abc");
        due("free on 10", 1023 - 16 - 32, () -> x.free(b, 10));
        int c = put(x, "abc");
        due("free on 60", 1023 - 1 - 16 - 32, () -> x.free(c, 60));
        int d = put(x, "zzz");
        due("free zzz", 1023, () -> x.free(d, 60));
        int e = put(x, "zz9");
        due("no name", HIDDEN, () -> x.free(e, 60));
        due("tape is empty", 0, () -> x.count(12));
        put(x, "abc");
        due("day", NO_ARGUMENT, () -> x.free(3, 10000));
        due("n", NO_ARGUMENT, () -> x.free(21, 0));
        due("n below 0", NO_ARGUMENT, () -> x.free(-1, 0));
        due("tape stays", 20, () -> x.count(12));
    }

    private static void lettersFor() {
        // am against mm: letters 50, sounds V M against M 50: together 50.
        MarkField x = of("lands 1;like 55;mark mm 1 0;mark mm 2 0;");
        due("a at place 0", 0, () -> x.letterFor(1, 2));
        due("0 holds", NONE, () -> x.letterFor(0, 2));
        due("no priority yet", NONE, () -> x.letterFor(1, 1));
        x.rule(5, 0);
        x.rule(0, 50);
        due("one letter is not enough", NONE, () -> x.letterFor(1, 2));
        x.rule(0, 51);
        due("one that is not kin", 0, () -> x.letterFor(1, 2));
        // bd, bd by letters alone: of place 0 'a' is free of the first, not of the second, ad.
        MarkField y = of("lands 1;ear 0;like 51;mark bd 1 0;mark ad 2 0;mark bd 3 0;");
        due("1 is 50 like 0", 3, () -> y.holders(0, 2));
        due("2 needs another one", 2, () -> y.letterFor(2, 3));
        // bpa is heard as one sound, 50 like the two of apa.
        MarkField z = of("lands 1;ear 100;like 60;mark apa 1 0;mark opa 5 0;");
        due("vowels are heard alike", 1, () -> z.letterFor(1, 5));
        MarkField w = of("lands 1;ear 100;like 60;mark hwp 1 0;mark hwp 5 0;");
        due("the sound of the first one", 0, () -> w.letterFor(1, 5));
        MarkField v = of("lands 1;ear 100;like 40;mark pap 1 0;mark pap 5 0;");
        // All other letters make two sounds at most, 50 like the one; x makes three, 33.
        due("x at place 0", 23, () -> v.letterFor(1, 5));
        // Only in half 1 it has priority: what stands in half 0 is nothing to it.
        MarkField u = of("lands 1;lapse 0;mark mm 1 0;mark mm 99 0;use 1 1 5 9;");
        due("half 1 alone", 0, () -> u.letterFor(1, 5));
        due("and none when it has lapsed", NONE, () -> u.letterFor(1, 10));
        MarkField t = of("lands 1;lapse 0;mark mm 1 0;mark mm 99 0;use 1 0 5 9;");
        due("half 0 alone", 0, () -> t.letterFor(1, 5));
        due("mark 2", NO_ELEMENT, () -> v.letterFor(2, -1));
        due("mark -1", NO_ELEMENT, () -> v.letterFor(-1, 0));
        due("day", NO_ARGUMENT, () -> v.letterFor(0, 10000));
        due("nothing has changed", 16, () -> v.letter(1, 0, false));
        due("and no act is kept", 0, () -> v.count(11));
    }

    private static void groups() {
        MarkField x = of("lands 1;room 9;like 100;mark abc 0 0;mark zzz 0 0;mark abc 0 1;mark abc 0 2;mark abc 0 0 1;");
        due("0 4 2", 21, () -> x.group(0));
        due("4", 21, () -> x.group(4));
        due("1 alone", 2, () -> x.group(1));
        due("3 alone", 8, () -> x.group(3));
        x.consent(0, 4, true);
        due("consent is nothing here", 21, () -> x.group(2));
        due("5", NO_ELEMENT, () -> x.group(5));
        due("-1", NO_ELEMENT, () -> x.group(-1));
    }

    private static void ranks() {
        MarkField x = of("lands 1;lapse 0;mark a 20;mark b 10;mark c 20;mark d 90;use 2 1 5 30;use 3 0 10 25;");
        int[] first = {1, 3, 0, 2};
        int[] second = {2, 1, 0};
        for (int k = 0; k < 4; k++) {
            int rank = k;
            due("rank " + k, first[k], () -> x.ranked(0, 20, rank));
            due("rank of half 1 " + k, k < 3 ? second[k] : NO_ELEMENT, () -> x.ranked(1, 20, rank));
        }
        due("rank 4", NO_ELEMENT, () -> x.ranked(0, 20, 4));
        due("rank -1", NO_ELEMENT, () -> x.ranked(0, 20, -1));
        due("half ahead of the day", NO_ELEMENT, () -> x.ranked(2, -1, 0));
        due("the day ahead of the rank", NO_ARGUMENT, () -> x.ranked(0, 10000, 4));
    }

    private static void filing() {
        MarkField x = of("lands 1;mark a 0;");
        int n = put(x, "abcdefghij");
        due("file", 1, () -> x.file(n, 513, 9999));
        int[] want = {9999, 513, 0, 10, 6, 0, 0};
        for (int what = 0; what < 7; what++) {
            int asked = what;
            due("filed " + what, want[what], () -> x.mark(1, asked));
        }
        due("an act", 1, () -> x.count(11));
        due("the tape is empty", 0, () -> x.count(12));
        int m = put(x, "Abc");
        due("no name", HIDDEN, () -> x.file(m, 0, 0));
        due("the tape is empty, too", 0, () -> x.count(12));
        due("no act", 1, () -> x.count(11));
        put(x, "abc");
        due("classes", NO_ARGUMENT, () -> x.file(3, 1024, 0));
        due("classes below 0", NO_ARGUMENT, () -> x.file(3, -1, 0));
        due("day", NO_ARGUMENT, () -> x.file(3, 0, 10000));
        due("n", NO_ARGUMENT, () -> x.file(21, 0, 0));
        due("n below 0", NO_ARGUMENT, () -> x.file(-1, 0, 0));
        due("the tape stays", 20, () -> x.count(12));
        due("file it", 2, () -> x.file(3, 0, 0));
        for (int k = 3; k < 12; k++) {
            int number = k;
            put(x, "b");
            due("file " + k, number, () -> x.file(1, 0, 0));
        }
        put(x, "b");
        due("a 13th", NONE, () -> x.file(1, 0, 0));
        due("tape behind it", 0, () -> x.count(12));
        due("acts behind it", 11, () -> x.count(11));
        due("no name ahead of that", HIDDEN, () -> x.file(0, 0, 0));
    }

    private static void using() {
        MarkField x = of("lands 1;mark a 9;mark b 9;");
        for (int k = 0; k < 12; k++) {
            int number = k;
            due("use " + k, number, () -> x.use(1, number % 2, number, 9999));
        }
        due("acts", 12, () -> x.count(11));
        x.undo();
        due("undone", 11, () -> x.mark(1, 2));
        due("use again", 11, () -> x.use(1, 1, 9999, 9999));
        due("a 13th", NONE, () -> x.use(1, 0, 0, 0));
        due("acts as before", 12, () -> x.count(11));
        due("days ahead of that", NO_ARGUMENT, () -> x.use(1, 0, 1, 0));
        due("days", NO_ARGUMENT, () -> x.use(0, 0, -1, 0));
        due("days", NO_ARGUMENT, () -> x.use(0, 0, 0, 10000));
        due("half ahead of days", NO_ELEMENT, () -> x.use(0, 2, -1, 0));
        due("mark ahead of days", NO_ELEMENT, () -> x.use(2, 0, -1, 0));
        due("mark -1", NO_ELEMENT, () -> x.use(-1, 0, 0, 0));
        due("0 has none", 0, () -> x.mark(0, 2));
    }

    private static void consenting() {
        MarkField x = of("lands 1;mark a 0;mark a 0;mark a 0;");
        due("it was not", 0, () -> bit(x.consent(0, 2, true)));
        due("it was", 1, () -> bit(x.consent(2, 0, true)));
        due("acts, though nothing changed by the second", 2, () -> x.count(11));
        due("one couple", 1, () -> x.count(4));
        due("mutual", 1, () -> x.two(2, 0, 6));
        due("is no more", 1, () -> bit(x.consent(0, 2, false)));
        due("was not", 0, () -> bit(x.consent(0, 2, false)));
        due("no couple", 0, () -> x.count(4));
        due("itself", NO_ELEMENT, () -> bit(x.consent(1, 1, true)));
        due("mark 3", NO_ELEMENT, () -> bit(x.consent(1, 3, true)));
        due("mark -1", NO_ELEMENT, () -> bit(x.consent(-1, 1, true)));
        due("acts", 4, () -> x.count(11));
    }

    private static void dropping() {
        MarkField x = of("lands 1;mark aa 1 1;mark bbb 2 2;mark c 3 3;mark dd 4 4;consent 0 2;consent 1 3;"
                + "consent 2 3;use 2 1 7 8;use 0 0 1 1;");
        due("left", 3, () -> x.drop(1));
        due("filed", 3, () -> x.mark(1, 0));
        due("classes", 16, () -> x.mark(2, 1));
        due("letters", 3, () -> x.letter(1, 0, false));
        due("use", 7, () -> x.used(1, 0, 1));
        due("consents", 2, () -> x.count(4));
        due("0 and 1", 1, () -> x.two(0, 1, 6));
        due("1 and 2", 1, () -> x.two(1, 2, 6));
        due("0 and 2", 0, () -> x.two(0, 2, 6));
        due("mark 3", NO_ELEMENT, () -> x.drop(3));
        due("mark -1", NO_ELEMENT, () -> x.drop(-1));
        due("left", 2, () -> x.drop(2));
        due("left", 1, () -> x.drop(0));
        due("left", 0, () -> x.drop(0));
        due("none", NO_ELEMENT, () -> x.drop(0));
        int n = put(x, "new");
        due("file behind", 0, () -> x.file(n, 0, 0));
        due("without the uses of old", 0, () -> x.mark(0, 2));
        due("and consents", 0, () -> x.count(4));
        for (int k = 4; k >= 0; k--) {
            int left = k;
            due("undo", left, () -> x.undo());
        }
        due("all four", 4, () -> x.count(2));
        due("with consents", 3, () -> x.count(4));
        due("of 1 and 3", 1, () -> x.two(1, 3, 6));
    }

    private static void ruling() {
        MarkField x = of("lands 1;");
        int[] first = {60, 5, 2, 0, 30, 50};
        int[] most = {100, 20, 9, 5, 999, 100};
        for (int k = 0; k < 6; k++) {
            int what = k;
            due("above " + k, NO_ARGUMENT, () -> x.rule(what, most[what] + 1));
            due("below " + k, NO_ARGUMENT, () -> x.rule(what, -1));
            due("most of " + k, first[k], () -> x.rule(what, most[what]));
            due("least of " + k, most[k], () -> x.rule(what, 0));
            due("is 0 " + k, 0, () -> x.count(5 + what));
        }
        due("acts", 12, () -> x.count(11));
        due("rule 6 ahead of v", NO_ELEMENT, () -> x.rule(6, -1));
        due("rule -1", NO_ELEMENT, () -> x.rule(-1, 0));
    }

    private static void nearing() {
        MarkField x = of("lands 1;mark abc 0 0;mark abc 0 9;");
        due("was not", 0, () -> bit(x.near(0, 9, true)));
        due("was", 1, () -> bit(x.near(9, 0, true)));
        due("one couple", 1, () -> x.count(3));
        due("goods", 1, () -> x.two(0, 1, 3));
        due("not near", 0, () -> x.two(0, 1, 5));
        x.rule(3, 1);
        due("alike", 1, () -> x.two(0, 1, 5));
        due("no more", 1, () -> bit(x.near(9, 0, false)));
        due("not alike", 0, () -> x.two(0, 1, 5));
        due("was not", 0, () -> bit(x.near(0, 9, false)));
        due("acts", 5, () -> x.count(11));
        due("itself", NO_ELEMENT, () -> bit(x.near(4, 4, false)));
        due("10", NO_ELEMENT, () -> bit(x.near(10, 4, true)));
        due("-1", NO_ELEMENT, () -> bit(x.near(4, -1, true)));
    }

    private static void undoing() {
        MarkField x = of("lands 1;mark abc 0 0;mark abc 5 0;");
        for (int k = 1; k <= 14; k++) {
            x.rule(4, k);
        }
        due("only twelve", 12, () -> x.count(11));
        for (int k = 11; k >= 0; k--) {
            int left = k;
            due("undo to " + k, left, () -> x.undo());
            due("lapse then", left + 2, () -> x.count(9));
        }
        due("none can", NONE, () -> x.undo());
        due("lapse stays", 2, () -> x.count(9));
        // Undone acts come back in no way; new ones take their place.
        x.consent(0, 1, true);
        x.drop(0);
        due("undo drop", 1, () -> x.undo());
        x.use(0, 1, 3, 4);
        due("two", 2, () -> x.count(11));
        due("undo use", 1, () -> x.undo());
        due("no use", 0, () -> x.mark(0, 2));
        due("undo consent", 0, () -> x.undo());
        due("no consent", 0, () -> x.count(4));
        x.near(1, 2, true);
        put(x, "tape");
        due("undo near", 0, () -> x.undo());
        due("no near", NONE, () -> x.steps(1, 2));
        due("the tape is as it was", 20, () -> x.count(12));
        due("file", 2, () -> x.file(4, 1, 2));
        due("undo file", 0, () -> x.undo());
        due("two marks", 2, () -> x.count(2));
        due("the tape stays empty", 0, () -> x.count(12));
        due("alike as ever", 1, () -> x.count(13));
    }

    private static void imaging() {
        MarkField x = of("lands 2;mark abc 0 0;mark abc 5 0;near 3 4;consent 0 1;use 0 3 1 2;ear 7;");
        x.rule(0, 33);
        x.image();
        due("an image takes no acts", 1, () -> x.count(11));
        due("undo", 0, () -> x.undo());
        due("like at first", 60, () -> x.count(5));
        int n = put(x, "lands 1;mark zz 9;");
        due("another register", 1, () -> x.register(n));
        x.rule(1, 1);
        put(x, "rest");
        due("back", 1, () -> bit(x.back()));
        int[] want = {2, 4, 2, 1, 1, 33, 5, 2, 0, 30, 7, 0, 20, 1};
        for (int what = 0; what < want.length; what++) {
            int asked = what;
            due("count behind back " + what, want[what], () -> x.count(asked));
        }
        due("use", 3, () -> x.used(0, 0, 0));
        due("no acts", NONE, () -> x.undo());
        x.drop(0);
        due("back again", 1, () -> bit(x.back()));
        due("two again", 2, () -> x.count(2));
        x.drop(1);
        x.image();
        x.drop(0);
        due("back to the new image", 1, () -> bit(x.back()));
        due("one mark", 1, () -> x.count(2));
        MarkField y = new MarkField();
        y.rule(0, 1);
        due("none was made", 0, () -> bit(y.back()));
        due("nothing changes", 1, () -> y.count(11));
        due("nor that", 1, () -> y.count(5));
    }

    private static void asking() {
        MarkField x = of("lands 2;lapse 0;mark abc 10 0;mark abc 20 0 4;mark xxx 30;mark qhw 9999 7;use 1 2 5 30;use 1 0 1 1;");
        dueAnswer(x, "many mark>0", 0, 3);
        dueAnswer(x, "first mark>0", 0, 1);
        dueAnswer(x, "first mark>3", 0, NONE);
        dueAnswer(x, "many 1=1", 0, 4);
        dueAnswer(x, "many 9999=filed", 0, 1);
        dueAnswer(x, "many classes=1", 0, 2);
        dueAnswer(x, "first classes=0", 0, 2);
        dueAnswer(x, "first uses=2", 0, 1);
        dueAnswer(x, "many length=3", 0, 4);
        dueAnswer(x, "first sounds=6", 0, 2);
        dueAnswer(x, "first sounds<3", 0, 3);
        dueAnswer(x, "many field=1", 0, 2);
        dueAnswer(x, "first holds=1", 20, 1);
        dueAnswer(x, "first refused=1", 20, 0);
        dueAnswer(x, "many refused=3", 20, 1);
        dueAnswer(x, "many holds=0 and refused=0", 20, 2);
        dueAnswer(x, "many holds=refused", 20, 2);
        dueAnswer(x, "many\nholds\n<0004 ", 20, 4);
        // and binds closer than or, not closest.
        dueAnswer(x, "many mark=0 or mark=1 and mark=2", 0, 1);
        dueAnswer(x, "many mark=0 and mark=1 or mark=2", 0, 1);
        dueAnswer(x, "many (mark=0 or mark=1) and mark<3", 0, 2);
        dueAnswer(x, "many not mark=0 and mark=1", 0, 1);
        dueAnswer(x, "many not mark=0 or mark=0", 0, 4);
        dueAnswer(x, "many not (mark=0 or mark=1)", 0, 2);
        dueAnswer(x, "many not not not mark=0", 0, 3);
        dueAnswer(x, "many((((((mark=2))))))", 0, 1);
        dueAnswer(x, "many not(not(not(mark=2)))and not(not(not(mark=3)))", 0, 2);
        dueAnswer(x, "many not not not not not not mark=2 and not not not not not not mark=2", 0, 1);
        // What stands behind the first n bytes is not read, not even of a word or a number.
        put(x, "many mark=11");
        due("a number cut", 1, () -> x.ask(11, 0));
        put(x, "first 2=marks");
        due("a word cut", 2, () -> x.ask(12, 0));
        put(x, "many mark=1 foo");
        due("the rest is gone, too", 1, () -> x.ask(11, 0));
        MarkField none = new MarkField();
        dueAnswer(none, "many 1=1", 0, 0);
        dueAnswer(none, "first not 1=1", 0, NONE);
        String full = "many 1=1" + times(" or 1=1", 27) + "   ";
        due("length", 200, () -> full.length());
        dueAnswer(x, full, 9999, 4);
    }

    private static void askingWrong() {
        dueQuestionFault("", 1, 0);
        dueQuestionFault("mary mark=0", 1, 0);
        dueQuestionFault("many", 1, 4);
        dueQuestionFault("many  ", 1, 6);
        dueQuestionFault("many many mark=0", 1, 5);
        dueQuestionFault("many mark", 1, 9);
        dueQuestionFault("many mark=", 1, 10);
        dueQuestionFault("many mark=mark mark", 1, 15);
        dueQuestionFault("many mark==1", 1, 10);
        dueQuestionFault("many mark!1", 1, 9);
        dueQuestionFault("many =1", 1, 5);
        dueQuestionFault("many lands=1", 1, 5);
        dueQuestionFault("many mark=lands", 1, 10);
        dueQuestionFault("many (mark=0", 1, 12);
        dueQuestionFault("many mark=0)", 1, 11);
        dueQuestionFault("many ()", 1, 6);
        dueQuestionFault("many (mark)=0", 1, 10);
        dueQuestionFault("many mark=(0)", 1, 10);
        dueQuestionFault("many mark=not 0", 1, 10);
        dueQuestionFault("many mark=0 and", 1, 15);
        dueQuestionFault("many mark=0 or or", 1, 15);
        dueQuestionFault("many mark=0 not", 1, 12);
        dueQuestionFault("many not", 1, 8);
        dueQuestionFault("many mark=0;", 1, 11);
        dueQuestionFault("many 10000=mark", 2, 5);
        dueQuestionFault("many mark<99999999999", 2, 10);
        dueQuestionFault("many (((((((mark=0", 3, 11);
        dueQuestionFault("many not(not(not(not mark", 3, 21 - 4);
        dueQuestionFault("many not(not(not(mark=0)))and(((((((", 3, 35);
        dueQuestionFault("many 1=0 and 10000=1 foo", 2, 13);
        MarkField x = of("lands 1;mark a 0;");
        x.feed(0, 0, 0, 0, 0);
        due("n", NO_ARGUMENT, () -> x.ask(21, 0));
        due("n below 0", NO_ARGUMENT, () -> x.ask(-1, 0));
        due("day", NO_ARGUMENT, () -> x.ask(5, 10000));
        due("day below 0", NO_ARGUMENT, () -> x.ask(5, -1));
        due("tape stays", 20, () -> x.count(12));
        for (int k = 0; k < 10; k++) {
            x.feed(0, 0, 0, 0, 0);
        }
        due("n above 200", NO_ARGUMENT, () -> x.ask(201, 0));
        due("tape stays", 220, () -> x.count(12));
        due("200", HIDDEN - 1, () -> x.ask(200, 0));
        due("tape is empty", 0, () -> x.count(12));
    }

    public static void main(String[] args) {
        newObject();
        feeding();
        registering();
        faultsThatCannotStand();
        otherFaults();
        faultPlaces();
        counting();
        marks();
        letters();
        uses();
        likeness();
        kin();
        twos();
        crowds();
        stepping();
        sinces();
        standing();
        halvesOfMarks();
        sharing();
        refusing();
        firstDays();
        woulds();
        frees();
        lettersFor();
        groups();
        ranks();
        filing();
        using();
        consenting();
        dropping();
        ruling();
        nearing();
        undoing();
        imaging();
        asking();
        askingWrong();
        end();
    }
}
