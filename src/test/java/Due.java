import java.util.NoSuchElementException;

/** What the tests by hand share: calls, and the answers that are due. */
abstract class Due {
    static final int NONE = MarkField.NONE;
    static final int HIDDEN = MarkField.HIDDEN;
    /** These stand for exceptions among answers. */
    static final int NO_ELEMENT = 2000000001;
    static final int NO_ARGUMENT = 2000000002;
    static final int OTHER_EXCEPTION = 2000000003;
    /** The rules in their order: their words, what they are at first, the most that they can be. */
    static final String[] RULE_WORDS = {"like", "crowd", "room", "reach", "lapse", "ear"};
    static final int[] RULES_AT_FIRST = {60, 5, 2, 0, 30, 50};
    static final int[] RULES_AT_MOST = {100, 20, 9, 5, 999, 100};
    /** Numbers that are out of every range. */
    static final int[] WILD = {-2147483648, -1000000000, -1, 2147483647};
    /** What a wrong answer is told with: a sentence of the document, perhaps. */
    static String about = "";
    static int checks = 0;
    static int wrong = 0;

    interface Call {
        int answer();
    }

    interface CallWith {
        int answer(int argument);
    }

    static int answerOf(Call call) {
        try {
            return call.answer();
        } catch (NoSuchElementException e) {
            return NO_ELEMENT;
        } catch (IllegalArgumentException e) {
            return NO_ARGUMENT;
        } catch (RuntimeException e) {
            return OTHER_EXCEPTION;
        }
    }

    static void complain(String what) {
        wrong++;
        System.out.println(about + what);
    }

    static void due(String what, int want, Call call) {
        checks++;
        int got = answerOf(call);
        if (got != want) {
            complain(what + ": answered " + got + ", due is " + want);
        }
    }

    /** Just outside of a range, and far out of it, the answer (an exception, mostly) is always that. */
    static void dueOutside(String what, int least, int most, int want, CallWith call) {
        due(what + " " + (least - 1), want, () -> call.answer(least - 1));
        due(what + " " + (most + 1), want, () -> call.answer(most + 1));
        for (int wild : WILD) {
            due(what + " " + wild, want, () -> call.answer(wild));
        }
    }

    /** The answer is as due, and all that can be seen of the object is as it was ahead of the call. */
    static void dueUnchanged(String what, MarkField x, int want, Call call) {
        String before = seen(x);
        due(what, want, call);
        String after = seen(x);
        if (!before.equals(after)) {
            complain(what + " has changed " + before + " to " + after);
        }
    }

    /** All that can be seen of an object, but what follows from the rest; in few calls, for these are counted. */
    static String seen(MarkField x) {
        StringBuilder text = new StringBuilder();
        int[] counts = new int[14];
        for (int what = 0; what < 14; what++) {
            counts[what] = x.count(what);
            text.append(counts[what]).append(' ');
        }
        text.append("fault ").append(x.fault());
        for (int m = 0; m < counts[2]; m++) {
            text.append(" mark ").append(nameOf(x, m));
            text.append(' ').append(x.mark(m, 0)).append(' ').append(x.mark(m, 1));
            int uses = x.mark(m, 2);
            for (int k = 0; k < uses; k++) {
                text.append(" use ").append(x.used(m, k, 0)).append(' ').append(x.used(m, k, 1));
                text.append(' ').append(x.used(m, k, 2));
            }
            for (int other = 0; other < m && counts[4] > 0; other++) {
                text.append(x.two(m, other, 6) == 1 ? " consent " + other : "");
            }
        }
        for (int one = 0; one < 10 && counts[3] > 0; one++) {
            for (int other = 0; other < one; other++) {
                text.append(x.steps(one, other) == 1 ? " near " + one + other : "");
            }
        }
        return text.toString();
    }

    static String nameOf(MarkField x, int mark) {
        StringBuilder name = new StringBuilder();
        int length = x.mark(mark, 3);
        for (int k = 0; k < length; k++) {
            name.append((char) ('a' - 1 + x.letter(mark, k, false)));
        }
        return name.toString();
    }

    static int bit(boolean yes) {
        return yes ? 1 : 0;
    }

    /** Feeds a text (blanks behind it): how many bytes it has. */
    static int put(MarkField x, String text) {
        for (int at = 0; at < text.length(); at += 20) {
            int[] n = new int[5];
            for (int k = 0; k < 20; k++) {
                n[k / 4] = n[k / 4] << 8 | (at + k < text.length() ? text.charAt(at + k) : ' ');
            }
            x.feed(n[0], n[1], n[2], n[3], n[4]);
        }
        return text.length();
    }

    /** A new object with the register that a text tells. */
    static MarkField of(String text) {
        MarkField x = new MarkField();
        int n = put(x, text);
        if (x.register(n) < 0) {
            complain("no register: " + text + " at " + x.fault());
        }
        return x;
    }

    static void dueFault(String text, int fault, int place) {
        MarkField x = of("lands 2;mark kept 1;");
        x.rule(0, 50);
        int n = put(x, text);
        due("register of " + text, -10 - fault, () -> x.register(n));
        due("place in " + text, place, () -> x.fault());
        due("tape behind " + text, 0, () -> x.count(12));
        due("marks behind " + text, 1, () -> x.count(2));
        due("lands behind " + text, 2, () -> x.count(0));
        due("acts behind " + text, 1, () -> x.count(11));
    }

    static void dueAnswer(MarkField x, String text, int day, int want) {
        int n = put(x, text);
        due("ask " + text, want, () -> x.ask(n, day));
        due("fault of " + text, NONE, () -> x.fault());
        due("tape behind " + text, 0, () -> x.count(12));
    }

    static void dueQuestionFault(String text, int fault, int place) {
        MarkField x = of("lands 1;mark a 0;");
        int n = put(x, text);
        due("ask " + text, HIDDEN - fault, () -> x.ask(n, 0));
        due("place in " + text, place, () -> x.fault());
        due("tape behind " + text, 0, () -> x.count(12));
    }

    /** Sounds are told by their letters, V F K L M N P R S T. */
    static void dueSounds(String name, String sounds) {
        MarkField x = of("lands 1;mark " + name + " 0;");
        due("sounds of " + name, sounds.length(), () -> x.mark(0, 4));
        for (int k = 0; k <= sounds.length(); k++) {
            int place = k;
            int want = k < sounds.length() ? "VFKLMNPRST".indexOf(sounds.charAt(k)) : NONE;
            due("sound " + k + " of " + name, want, () -> x.letter(0, place, true));
        }
    }

    static String times(String part, int times) {
        StringBuilder text = new StringBuilder();
        for (int k = 0; k < times; k++) {
            text.append(part);
        }
        return text.toString();
    }

    static void end() {
        System.out.println(checks + " answers looked at, " + wrong + " wrong");
        System.exit(wrong == 0 ? 0 : 1);
    }
}
