import java.util.ArrayDeque;
import java.util.ArrayList;
import java.util.Deque;
import java.util.HashMap;
import java.util.List;
import java.util.Map;
import java.util.NoSuchElementException;
import java.util.TreeSet;

/**
 * The document once more, as slow and as near to its words as can be: days are gone through one by
 * one and nothing is kept that could be found anew. Tests hold the class against it.
 */
final class PlainField {
    private static final int NONE = -1;
    private static final int HIDDEN = -1000000000;
    private static final int[] MOST = {100, 20, 9, 5, 999, 100};
    private static final String[] RULE_WORDS = {"like", "crowd", "room", "reach", "lapse", "ear"};

    private static final class Use {
        final int half;
        final int from;
        final int to;

        Use(int half, int from, int to) {
            this.half = half;
            this.from = from;
            this.to = to;
        }
    }

    private static final class Mark {
        String name;
        int filed;
        final TreeSet<Integer> classes = new TreeSet<>();
        final List<Use> uses = new ArrayList<>();
        final List<Mark> consents = new ArrayList<>();
    }

    private static final class State {
        int lands = 1;
        final List<Mark> marks = new ArrayList<>();
        final boolean[][] neighbours = new boolean[10][10];
        final int[] rules = {60, 5, 2, 0, 30, 50};

        State copy() {
            State copy = new State();
            copy.lands = lands;
            for (Mark mark : marks) {
                Mark twin = new Mark();
                twin.name = mark.name;
                twin.filed = mark.filed;
                twin.classes.addAll(mark.classes);
                twin.uses.addAll(mark.uses);
                copy.marks.add(twin);
            }
            for (int a = 0; a < marks.size(); a++) {
                for (Mark other : marks.get(a).consents) {
                    copy.marks.get(a).consents.add(copy.marks.get(marks.indexOf(other)));
                }
            }
            for (int a = 0; a < 10; a++) {
                copy.neighbours[a] = neighbours[a].clone();
            }
            System.arraycopy(rules, 0, copy.rules, 0, 6);
            return copy;
        }
    }

    private static final class Fault extends Exception {
        private static final long serialVersionUID = 1L;
        final int number;
        final int place;

        Fault(int number, int place) {
            this.number = number;
            this.place = place;
        }
    }

    private static final class Token {
        final String text;
        final int place;

        Token(String text, int place) {
            this.text = text;
            this.place = place;
        }

        boolean isWord() {
            return text.matches("[a-z]+");
        }

        boolean isNumber() {
            return text.matches("[0-9]+");
        }

        int value() {
            String figures = text.replaceFirst("^0+", "");
            return figures.isEmpty() ? 0 : figures.length() > 6 ? 999999 : Integer.parseInt(figures);
        }
    }

    private State state = new State();
    private State kept = null;
    private final Deque<State> acts = new ArrayDeque<>();
    private final StringBuilder tape = new StringBuilder();
    private int faultPlace = NONE;
    private List<Token> tokens = new ArrayList<>();
    private int at = 0;

    // ---- texts

    int feed(int a, int b, int c, int d, int e) {
        if (tape.length() + 20 > 700) {
            return NONE;
        }
        for (int number : new int[] {a, b, c, d, e}) {
            for (int k = 3; k >= 0; k--) {
                tape.append((char) (number >>> 8 * k & 255));
            }
        }
        return tape.length();
    }

    private static List<Token> tokensOf(String text) {
        List<Token> found = new ArrayList<>();
        java.util.regex.Matcher matcher =
                java.util.regex.Pattern.compile("[a-z]+|[0-9]+|[^ \n]", java.util.regex.Pattern.DOTALL)
                        .matcher(text);
        while (matcher.find()) {
            found.add(new Token(matcher.group(), matcher.start()));
        }
        found.add(new Token("", text.length()));
        return found;
    }

    private String take(int n) {
        if (n < 0 || n > tape.length()) {
            throw new IllegalArgumentException();
        }
        String text = tape.substring(0, n);
        tape.setLength(0);
        return text;
    }

    private Token look() {
        return tokens.get(at);
    }

    private Fault at(int number) {
        return new Fault(number, look().place);
    }

    private void word(String word) throws Fault {
        if (!look().text.equals(word)) {
            throw at(1);
        }
        at++;
    }

    private int number(int least, int most) throws Fault {
        if (!look().isNumber()) {
            throw at(1);
        }
        if (look().value() < least || look().value() > most) {
            throw at(2);
        }
        return tokens.get(at++).value();
    }

    int register(int n) {
        String text = take(n);
        tokens = tokensOf(text);
        at = 0;
        State read = new State();
        try {
            word("lands");
            read.lands = number(1, 6);
            word(";");
            while (!look().text.isEmpty()) {
                line(read);
                word(";");
            }
        } catch (Fault fault) {
            faultPlace = fault.place;
            return -10 - fault.number;
        }
        faultPlace = NONE;
        state = read;
        acts.clear();
        return state.marks.size();
    }

    private void line(State read) throws Fault {
        String word = look().text;
        int rule = List.of(RULE_WORDS).indexOf(word);
        if (rule >= 0) {
            at++;
            read.rules[rule] = number(0, MOST[rule]);
        } else if (word.equals("near")) {
            at++;
            int one = number(0, 9);
            if (look().isNumber() && look().value() == one) {
                throw at(2);
            }
            int other = number(0, 9);
            read.neighbours[one][other] = true;
            read.neighbours[other][one] = true;
        } else if (word.equals("consent")) {
            at++;
            Mark one = read.marks.isEmpty() ? noMark() : read.marks.get(number(0, read.marks.size() - 1));
            if (look().isNumber() && look().value() == read.marks.indexOf(one)) {
                throw at(2);
            }
            Mark other = read.marks.get(number(0, read.marks.size() - 1));
            setConsent(one, other, true);
        } else if (word.equals("use")) {
            at++;
            useLine(read);
        } else if (word.equals("mark")) {
            if (read.marks.size() == 12) {
                throw at(4);
            }
            at++;
            markLine(read);
        } else {
            throw at(1);
        }
    }

    private Mark noMark() throws Fault {
        throw at(look().isNumber() ? 2 : 1);
    }

    private void useLine(State read) throws Fault {
        if (!look().isNumber()) {
            throw at(1);
        }
        int mark = look().value();
        if (mark >= read.marks.size()) {
            throw at(2);
        }
        if (read.marks.get(mark).uses.size() == 12) {
            throw at(4);
        }
        at++;
        int half = number(0, 2 * read.lands - 1);
        int from = number(0, 9999);
        int to = number(from, 9999);
        read.marks.get(mark).uses.add(new Use(half, from, to));
    }

    private void markLine(State read) throws Fault {
        if (!look().isWord()) {
            throw at(1);
        }
        if (look().text.length() > 10) {
            throw at(3);
        }
        Mark mark = new Mark();
        mark.name = tokens.get(at++).text;
        mark.filed = number(0, 9999);
        while (look().isNumber()) {
            if (mark.classes.contains(look().value())) {
                throw at(2);
            }
            mark.classes.add(number(0, 9));
        }
        read.marks.add(mark);
    }

    int fault() {
        return faultPlace;
    }

    // ---- names

    static String soundsOf(String name) {
        String[][] heard = {
            {"ph", "F"}, {"th", "T"}, {"ch", "K"}, {"ck", "K"}, {"sh", "S"}, {"gh", ""}, {"x", "KS"},
            {"ce", "S"}, {"ci", "S"}, {"cy", "S"}, {"c", "K"}, {"k", "K"}, {"q", "K"}, {"g", "K"},
            {"j", "K"}, {"s", "S"}, {"z", "S"}, {"f", "F"}, {"v", "F"}, {"b", "P"}, {"p", "P"},
            {"d", "T"}, {"t", "T"}, {"m", "M"}, {"n", "N"}, {"l", "L"}, {"r", "R"}, {"a", "V"},
            {"e", "V"}, {"i", "V"}, {"o", "V"}, {"u", "V"}, {"y", "V"}, {"h", ""}, {"w", ""}};
        StringBuilder row = new StringBuilder();
        int k = 0;
        while (k < name.length()) {
            for (String[] rule : heard) {
                if (name.startsWith(rule[0], k)) {
                    if (!rule[1].equals("V") || k == 0) {
                        row.append(rule[1]);
                    }
                    // The vowel that makes a c soft is only looked at.
                    k += rule[0].matches("c[eiy]") ? 1 : rule[0].length();
                    break;
                }
            }
        }
        return row.toString().replaceAll("(.)\\1+", "$1");
    }

    private static int far(String a, String b, List<String> kin) {
        int[][] least = new int[a.length() + 1][b.length() + 1];
        for (int i = a.length(); i >= 0; i--) {
            for (int j = b.length(); j >= 0; j--) {
                if (i == a.length() || j == b.length()) {
                    least[i][j] = 2 * (a.length() - i + b.length() - j);
                    continue;
                }
                String couple = "" + a.charAt(i) + b.charAt(j);
                String turned = "" + b.charAt(j) + a.charAt(i);
                int change = a.charAt(i) == b.charAt(j) ? 0
                        : kin.contains(couple) || kin.contains(turned) ? 1 : 2;
                least[i][j] = Math.min(least[i + 1][j + 1] + change,
                        Math.min(least[i + 1][j], least[i][j + 1]) + 2);
            }
        }
        return least[0][0];
    }

    private static int rowLikeness(String a, String b, List<String> kin) {
        int longer = Math.max(a.length(), b.length());
        if (longer == 0) {
            return 100;
        }
        return 100 - (int) Math.ceil(50.0 * far(a, b, kin) / longer);
    }

    static int letterLikeness(String a, String b) {
        return rowLikeness(a, b, List.of("il", "ij", "mn", "uv", "co", "bd", "pq", "ec"));
    }

    static int soundLikeness(String a, String b) {
        return rowLikeness(soundsOf(a), soundsOf(b), List.of("PF", "KS", "MN", "LR", "TS"));
    }

    private static final Map<String, Integer> LIKENESSES = new HashMap<>();

    private static int nameLikeness(State s, Mark a, Mark b) {
        int ear = s.rules[5];
        String key = a.name + ' ' + b.name + ' ' + ear;
        Integer known = LIKENESSES.get(key);
        if (known == null) {
            known = (ear * soundLikeness(a.name, b.name) + (100 - ear) * letterLikeness(a.name, b.name))
                    / 100;
            LIKENESSES.put(key, known);
        }
        return known;
    }

    // ---- goods

    private static int classSteps(State s, int one, int other) {
        int[] steps = new int[10];
        java.util.Arrays.fill(steps, NONE);
        steps[one] = 0;
        for (int round = 0; round < 10; round++) {
            for (int a = 0; a < 10; a++) {
                for (int b = 0; b < 10; b++) {
                    if (s.neighbours[a][b] && steps[a] == round && steps[b] == NONE) {
                        steps[b] = round + 1;
                    }
                }
            }
        }
        return steps[other];
    }

    private static int goods(State s, Mark a, Mark b) {
        int least = NONE;
        for (int one : a.classes) {
            for (int other : b.classes) {
                int steps = classSteps(s, one, other);
                if (steps != NONE && (least == NONE || steps < least)) {
                    least = steps;
                }
            }
        }
        return least;
    }

    private static boolean isNear(State s, Mark a, Mark b) {
        int steps = goods(s, a, b);
        return steps != NONE && steps <= s.rules[3];
    }

    private static int field(State s, Mark a) {
        int field = 0;
        for (Mark b : s.marks) {
            if (b != a && isNear(s, a, b) && nameLikeness(s, a, b) >= s.rules[0]) {
                field++;
            }
        }
        return field;
    }

    private static int crowded(State s, Mark a) {
        return Math.max(0, field(s, a) - s.rules[2]);
    }

    private static boolean alike(State s, Mark a, Mark b) {
        int more = s.rules[1] * Math.max(crowded(s, a), crowded(s, b));
        return a != b && isNear(s, a, b)
                && nameLikeness(s, a, b) >= Math.min(100, s.rules[0] + more);
    }

    /** Who is alike does not hang on the day: told once for a call. */
    private static boolean[][] alikes(State s) {
        int size = s.marks.size();
        boolean[][] found = new boolean[size][size];
        for (int a = 0; a < size; a++) {
            for (int b = 0; b < size; b++) {
                found[a][b] = alike(s, s.marks.get(a), s.marks.get(b));
            }
        }
        return found;
    }

    // ---- days

    private static int since(State s, Mark mark, int half, int day) {
        int least = NONE;
        for (int d = day; d >= 0; d--) {
            boolean live = false;
            for (Use use : mark.uses) {
                if (use.half == half && use.from <= day && use.from <= d && d <= use.to + s.rules[4]) {
                    live = true;
                }
            }
            if (!live) {
                break;
            }
            least = d;
        }
        return least;
    }

    private static int priority(State s, Mark mark, int half, int day) {
        int since = since(s, mark, half, day);
        if (mark.filed <= day && (since == NONE || mark.filed < since)) {
            return mark.filed;
        }
        return since;
    }

    /** Priorities of all marks in one half on one day, and what follows from them. */
    private static final class Place {
        final State s;
        final boolean[][] alike;
        final int[] priority;

        Place(State s, boolean[][] alike, int half, int day) {
            this.s = s;
            this.alike = alike;
            priority = new int[s.marks.size()];
            for (int m = 0; m < priority.length; m++) {
                priority[m] = priority(s, s.marks.get(m), half, day);
            }
        }

        boolean senior(int a, int b) {
            return priority[a] < priority[b] || priority[a] == priority[b] && a < b;
        }

        boolean against(int a, int b) {
            return a != b && priority[a] != NONE && priority[b] != NONE && alike[a][b]
                    && !s.marks.get(a).consents.contains(s.marks.get(b));
        }

        boolean holds(int m) {
            return priority[m] != NONE && refusedFor(m) == NONE;
        }

        int refusedFor(int m) {
            int most = NONE;
            for (int o = 0; o < priority.length; o++) {
                if (against(m, o) && senior(o, m) && holds(o) && (most == NONE || senior(o, most))) {
                    most = o;
                }
            }
            return most;
        }
    }

    private static int halfBits(State s, int mark, int day, int what) {
        boolean[][] alike = alikes(s);
        int bits = 0;
        for (int half = 0; half < 2 * s.lands; half++) {
            Place place = new Place(s, alike, half, day);
            boolean has = place.priority[mark] != NONE;
            boolean holds = place.holds(mark);
            if (what == 0 ? has : what == 1 ? holds : has && !holds) {
                bits |= 1 << half;
            }
        }
        return bits;
    }

    private static int all(State s) {
        return (1 << 2 * s.lands) - 1;
    }

    // ---- the face

    private static void element(boolean so) {
        if (!so) {
            throw new NoSuchElementException();
        }
    }

    private static void argument(boolean so) {
        if (!so) {
            throw new IllegalArgumentException();
        }
    }

    private boolean isMark(int m) {
        return 0 <= m && m < state.marks.size();
    }

    private boolean isHalf(int h) {
        return 0 <= h && h < 2 * state.lands;
    }

    private static boolean isDay(int d) {
        return 0 <= d && d <= 9999;
    }

    int count(int what) {
        element(0 <= what && what <= 13);
        int couples = 0;
        switch (what) {
            case 0: return state.lands;
            case 1: return 2 * state.lands;
            case 2: return state.marks.size();
            case 3:
                for (int a = 0; a < 10; a++) {
                    for (int b = 0; b < a; b++) {
                        couples += state.neighbours[a][b] ? 1 : 0;
                    }
                }
                return couples;
            case 4:
                for (Mark mark : state.marks) {
                    couples += mark.consents.size();
                }
                return couples / 2;
            case 11: return acts.size();
            case 12: return tape.length();
            case 13:
                for (Mark a : state.marks) {
                    for (Mark b : state.marks) {
                        couples += alike(state, a, b) ? 1 : 0;
                    }
                }
                return couples / 2;
            default: return state.rules[what - 5];
        }
    }

    int mark(int m, int what) {
        element(isMark(m) && 0 <= what && what <= 6);
        Mark mark = state.marks.get(m);
        int bits = 0;
        for (int c : mark.classes) {
            bits += 1 << c;
        }
        int[] answers = {mark.filed, bits, mark.uses.size(), mark.name.length(),
            soundsOf(mark.name).length(), field(state, mark), crowded(state, mark)};
        return answers[what];
    }

    int letter(int m, int k, boolean sounds) {
        element(isMark(m) && k >= 0);
        String name = state.marks.get(m).name;
        String row = sounds ? soundsOf(name) : name;
        if (k >= row.length()) {
            return NONE;
        }
        return sounds ? "VFKLMNPRST".indexOf(row.charAt(k)) : row.charAt(k) - 'a' + 1;
    }

    int used(int m, int k, int what) {
        element(isMark(m) && k >= 0 && k < state.marks.get(m).uses.size() && 0 <= what && what <= 2);
        Use use = state.marks.get(m).uses.get(k);
        return what == 0 ? use.half : what == 1 ? use.from : use.to;
    }

    int two(int m, int o, int what) {
        element(isMark(m) && isMark(o) && m != o && 0 <= what && what <= 6);
        Mark a = state.marks.get(m);
        Mark b = state.marks.get(o);
        int[] answers = {letterLikeness(a.name, b.name), soundLikeness(a.name, b.name),
            nameLikeness(state, a, b), goods(state, a, b), isNear(state, a, b) ? 1 : 0,
            alike(state, a, b) ? 1 : 0, a.consents.contains(b) ? 1 : 0};
        return answers[what];
    }

    int steps(int one, int other) {
        element(0 <= one && one <= 9 && 0 <= other && other <= 9);
        return classSteps(state, one, other);
    }

    int here(int m, int half, int day, int what) {
        element(isMark(m) && isHalf(half) && 0 <= what && what <= 3);
        argument(isDay(day));
        Place place = new Place(state, alikes(state), half, day);
        switch (what) {
            case 0: return since(state, state.marks.get(m), half, day);
            case 1: return place.priority[m];
            case 2: return place.refusedFor(m);
            default: return place.holds(m) ? 1 : 0;
        }
    }

    int halves(int m, int day, int what) {
        element(isMark(m) && 0 <= what && what <= 2);
        argument(isDay(day));
        return halfBits(state, m, day, what);
    }

    int holders(int half, int day) {
        element(isHalf(half));
        argument(isDay(day));
        Place place = new Place(state, alikes(state), half, day);
        int bits = 0;
        for (int m = 0; m < state.marks.size(); m++) {
            bits |= place.holds(m) ? 1 << m : 0;
        }
        return bits;
    }

    int shared(int day) {
        argument(isDay(day));
        boolean[][] alike = alikes(state);
        int bits = 0;
        for (int land = 0; land < state.lands; land++) {
            Place one = new Place(state, alike, 2 * land, day);
            Place other = new Place(state, alike, 2 * land + 1, day);
            for (int a = 0; a < state.marks.size(); a++) {
                for (int b = 0; b < state.marks.size(); b++) {
                    if (a != b && alike[a][b] && one.holds(a) && other.holds(b)
                            && !other.holds(a) && !one.holds(b)) {
                        bits |= 1 << land;
                    }
                }
            }
        }
        return bits;
    }

    int refused(int day, int what) {
        element(what == 0 || what == 1);
        argument(isDay(day));
        int bits = 0;
        int first = NONE;
        for (int m = 0; m < state.marks.size(); m++) {
            if (halfBits(state, m, day, 0) != 0 && halfBits(state, m, day, 1) == 0) {
                bits |= 1 << m;
                if (first == NONE || state.marks.get(m).filed < state.marks.get(first).filed) {
                    first = m;
                }
            }
        }
        return what == 0 ? bits : first;
    }

    int firstDay(int m, int half) {
        element(isMark(m) && isHalf(half));
        boolean[][] alike = alikes(state);
        for (int day = 0; day <= 9999; day++) {
            if (new Place(state, alike, half, day).holds(m)) {
                return day;
            }
        }
        return NONE;
    }

    private void needFiling(int n, int classes, int day) {
        argument(0 <= classes && classes < 1024 && isDay(day) && 0 <= n && n <= tape.length());
    }

    private static Mark newMark(String name, int classes, int day) {
        Mark mark = new Mark();
        mark.name = name;
        mark.filed = day;
        for (int c = 0; c < 10; c++) {
            if ((classes >> c & 1) == 1) {
                mark.classes.add(c);
            }
        }
        return mark;
    }

    private State with(String name, int classes, int day) {
        State s = state.copy();
        s.marks.add(newMark(name, classes, day));
        return s;
    }

    int would(int n, int classes, int day, int what) {
        element(0 <= what && what <= 3);
        needFiling(n, classes, day);
        String name = take(n);
        if (!name.matches("[a-z]{1,10}")) {
            return HIDDEN;
        }
        State s = with(name, classes, day);
        int m = s.marks.size() - 1;
        boolean[][] alike = alikes(s);
        switch (what) {
            case 0:
                return halfBits(s, m, day, 1);
            case 1:
                int least = NONE;
                for (int half = 0; half < 2 * s.lands; half++) {
                    int senior = new Place(s, alike, half, day).refusedFor(m);
                    if (senior != NONE && (least == NONE || senior < least)) {
                        least = senior;
                    }
                }
                return least;
            case 2:
                return field(s, s.marks.get(m));
            default:
                for (int d = day; d <= 9999; d++) {
                    s.marks.get(m).filed = d;
                    if (holdsAll(s, alike, m, d)) {
                        return d;
                    }
                }
                return NONE;
        }
    }

    private static boolean holdsAll(State s, boolean[][] alike, int m, int day) {
        for (int half = 0; half < 2 * s.lands; half++) {
            if (!new Place(s, alike, half, day).holds(m)) {
                return false;
            }
        }
        return true;
    }

    int free(int n, int day) {
        needFiling(n, 0, day);
        String name = take(n);
        if (!name.matches("[a-z]{1,10}")) {
            return HIDDEN;
        }
        int bits = 0;
        for (int c = 0; c < 10; c++) {
            State s = with(name, 1 << c, day);
            if (halfBits(s, s.marks.size() - 1, day, 1) == all(s)) {
                bits |= 1 << c;
            }
        }
        return bits;
    }

    int letterFor(int m, int day) {
        element(isMark(m));
        argument(isDay(day));
        int wanted = halfBits(state, m, day, 0);
        if (halfBits(state, m, day, 1) == wanted) {
            return NONE;
        }
        String name = state.marks.get(m).name;
        for (int code = 0; code < 26 * name.length(); code++) {
            char letter = (char) ('a' + code % 26);
            int place = code / 26;
            if (name.charAt(place) != letter) {
                State s = state.copy();
                s.marks.get(m).name = name.substring(0, place) + letter + name.substring(place + 1);
                if (halfBits(s, m, day, 1) == wanted) {
                    return code;
                }
            }
        }
        return NONE;
    }

    int group(int m) {
        element(isMark(m));
        boolean[][] alike = alikes(state);
        int bits = 1 << m;
        for (int round = 0; round < 12; round++) {
            for (int a = 0; a < alike.length; a++) {
                for (int b = 0; b < alike.length; b++) {
                    if ((bits >> a & 1) == 1 && alike[a][b]) {
                        bits |= 1 << b;
                    }
                }
            }
        }
        return bits;
    }

    int ranked(int half, int day, int k) {
        element(isHalf(half));
        argument(isDay(day));
        Place place = new Place(state, alikes(state), half, day);
        for (int m = 0; m < state.marks.size(); m++) {
            if (place.priority[m] != NONE) {
                int ahead = 0;
                for (int o = 0; o < state.marks.size(); o++) {
                    if (o != m && place.priority[o] != NONE && place.senior(o, m)) {
                        ahead++;
                    }
                }
                if (ahead == k) {
                    return m;
                }
            }
        }
        throw new NoSuchElementException();
    }

    private void act() {
        acts.addLast(state.copy());
        if (acts.size() > 12) {
            acts.removeFirst();
        }
    }

    int file(int n, int classes, int day) {
        needFiling(n, classes, day);
        String name = take(n);
        if (!name.matches("[a-z]{1,10}")) {
            return HIDDEN;
        }
        if (state.marks.size() == 12) {
            return NONE;
        }
        act();
        state.marks.add(newMark(name, classes, day));
        return state.marks.size() - 1;
    }

    int use(int m, int half, int from, int to) {
        element(isMark(m) && isHalf(half));
        argument(isDay(from) && isDay(to) && from <= to);
        if (state.marks.get(m).uses.size() == 12) {
            return NONE;
        }
        act();
        state.marks.get(m).uses.add(new Use(half, from, to));
        return state.marks.get(m).uses.size() - 1;
    }

    private static void setConsent(Mark a, Mark b, boolean yes) {
        a.consents.remove(b);
        b.consents.remove(a);
        if (yes) {
            a.consents.add(b);
            b.consents.add(a);
        }
    }

    boolean consent(int m, int o, boolean yes) {
        element(isMark(m) && isMark(o) && m != o);
        act();
        Mark a = state.marks.get(m);
        Mark b = state.marks.get(o);
        boolean was = a.consents.contains(b);
        setConsent(a, b, yes);
        return was;
    }

    int drop(int m) {
        element(isMark(m));
        act();
        Mark gone = state.marks.remove(m);
        for (Mark mark : state.marks) {
            mark.consents.remove(gone);
        }
        return state.marks.size();
    }

    int rule(int what, int v) {
        element(0 <= what && what <= 5);
        argument(0 <= v && v <= MOST[what]);
        act();
        int was = state.rules[what];
        state.rules[what] = v;
        return was;
    }

    boolean near(int one, int other, boolean yes) {
        element(0 <= one && one <= 9 && 0 <= other && other <= 9 && one != other);
        act();
        boolean was = state.neighbours[one][other];
        state.neighbours[one][other] = yes;
        state.neighbours[other][one] = yes;
        return was;
    }

    int undo() {
        if (acts.isEmpty()) {
            return NONE;
        }
        state = acts.removeLast();
        return acts.size();
    }

    void image() {
        kept = state.copy();
    }

    boolean back() {
        if (kept == null) {
            return false;
        }
        state = kept.copy();
        acts.clear();
        return true;
    }

    // ---- questions

    /** A part of a question, told of one mark. */
    private interface Part {
        int of(int mark);
    }

    int ask(int n, int day) {
        argument(n >= 0 && n <= 200 && n <= tape.length() && isDay(day));
        tokens = tokensOf(take(n));
        at = 0;
        try {
            boolean many = look().text.equals("many");
            word(many ? "many" : "first");
            Part test = test(0, day);
            word("");
            faultPlace = NONE;
            int found = 0;
            for (int m = 0; m < state.marks.size(); m++) {
                if (test.of(m) != 0) {
                    found++;
                    if (!many) {
                        return m;
                    }
                }
            }
            return many ? found : NONE;
        } catch (Fault fault) {
            faultPlace = fault.place;
            return HIDDEN - fault.number;
        }
    }

    private Part test(int open, int day) throws Fault {
        Part left = both(open, day);
        while (look().text.equals("or")) {
            at++;
            Part one = left;
            Part other = both(open, day);
            left = m -> one.of(m) | other.of(m);
        }
        return left;
    }

    private Part both(int open, int day) throws Fault {
        Part left = fact(open, day);
        while (look().text.equals("and")) {
            at++;
            Part one = left;
            Part other = fact(open, day);
            left = m -> one.of(m) & other.of(m);
        }
        return left;
    }

    private Part fact(int open, int day) throws Fault {
        boolean not = look().text.equals("not");
        if (not || look().text.equals("(")) {
            if (open == 6) {
                throw at(3);
            }
            at++;
            if (not) {
                Part inside = fact(open + 1, day);
                return m -> 1 - inside.of(m);
            }
            Part inside = test(open + 1, day);
            word(")");
            return inside;
        }
        Part left = value(day);
        String sign = look().text;
        if (!sign.equals("<") && !sign.equals("=") && !sign.equals(">")) {
            throw at(1);
        }
        at++;
        Part right = value(day);
        return m -> Integer.signum(Integer.compare(left.of(m), right.of(m))) == "<=>".indexOf(sign) - 1
                ? 1 : 0;
    }

    private Part value(int day) throws Fault {
        if (look().isNumber()) {
            int number = number(0, 9999);
            return m -> number;
        }
        String word = look().text;
        Part part;
        switch (word) {
            case "mark": part = m -> m; break;
            case "filed": part = m -> mark(m, 0); break;
            case "classes": part = m -> Integer.bitCount(mark(m, 1)); break;
            case "uses": part = m -> mark(m, 2); break;
            case "length": part = m -> mark(m, 3); break;
            case "sounds": part = m -> mark(m, 4); break;
            case "field": part = m -> mark(m, 5); break;
            case "holds": part = m -> Integer.bitCount(halves(m, day, 1)); break;
            case "refused": part = m -> Integer.bitCount(halves(m, day, 2)); break;
            default: throw at(1);
        }
        at++;
        return part;
    }
}
