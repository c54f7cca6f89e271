import java.lang.reflect.InvocationTargetException;
import java.lang.reflect.Method;
import java.util.Arrays;
import java.util.Random;

/** Many random runs of calls, held call by call against the plain model of the document. */
public final class ModelTest {
    private static final int RUNS = 300;
    private static final int CALLS = 90;
    // What stands here more than once is called more often.
    private static final String[] NAMES = {
        "fault", "count", "mark", "letter", "used", "two", "steps", "here", "halves", "holders", "shared",
        "refused", "firstDay", "would", "free", "letterFor", "group", "ranked", "file", "use", "use",
        "consent", "drop", "rule", "near", "undo", "image", "back", "register", "ask", "ask", "here", "would"};
    private static int wrong = 0;

    private final Random random;
    private final MarkField field = new MarkField();
    private final PlainField model = new PlainField();
    private final StringBuilder log = new StringBuilder();
    private int days = 60;
    private int calls = 0;

    // Most names of one run are made of one, so that many are alike.
    private final String base;

    private ModelTest(long seed) {
        random = new Random(seed);
        base = pick("palto", "balto", "mona", "lima", "xerox", "hulu", "phoenix", "cab", "qui", "tic");
    }

    public static void main(String[] args) {
        int runs = args.length > 0 ? Integer.parseInt(args[0]) : RUNS;
        int from = args.length > 1 ? Integer.parseInt(args[1]) : 0;
        long calls = 0;
        for (int run = from; run < from + runs && wrong < 5; run++) {
            ModelTest test = new ModelTest(run);
            for (int call = 0; call < CALLS && test.step(); call++) {
                calls++;
            }
        }
        System.out.println(calls + " calls compared, " + wrong + " runs wrong");
        System.exit(wrong == 0 ? 0 : 1);
    }

    /** One call of both: whether they answered alike. */
    private boolean step() {
        // A register stands at first; then calls of all kinds come.
        String name = calls < 2 ? "register" : NAMES[random.nextInt(NAMES.length)];
        calls++;
        int[] a = arguments(name);
        if (needsTape(name) && !feedText(a, name)) {
            return false;
        }
        String got = answer(field, name, a) + state(field);
        String want = answer(model, name, a) + state(model);
        log.append(name).append(Arrays.toString(a)).append(" -> ").append(want).append('\n');
        if (!got.equals(want)) {
            wrong++;
            System.out.println(log + "answered " + got + ", due is " + want);
        }
        return got.equals(want);
    }

    /** What a call may change besides its answer: place of a fault, marks, acts and tape. */
    private static String state(Object target) {
        StringBuilder text = new StringBuilder();
        text.append(' ').append(answer(target, "fault", new int[0]));
        for (int what : new int[] {2, 11, 12}) {
            text.append(' ').append(answer(target, "count", new int[] {what}));
        }
        return text.toString();
    }

    private static boolean needsTape(String name) {
        return Arrays.asList("register", "ask", "would", "free", "file").contains(name);
    }

    private int some(int size) {
        if (random.nextInt(150) == 0) {
            return Due.WILD[random.nextInt(Due.WILD.length)];
        }
        return random.nextInt(20) == 0 ? random.nextInt(size + 4) - 2 : random.nextInt(Math.max(1, size));
    }

    private int someDay() {
        if (random.nextInt(200) == 0) {
            return Due.WILD[random.nextInt(Due.WILD.length)];
        }
        return random.nextInt(25) == 0 ? random.nextInt(10010) - 5 : random.nextInt(days);
    }

    private int[] arguments(String name) {
        int marks = model.count(2);
        int halves = model.count(1);
        int from = someDay();
        switch (name) {
            case "count": return new int[] {random.nextInt(16) - 1};
            case "mark": return new int[] {some(marks), some(7)};
            case "letter": return new int[] {some(marks), some(9), random.nextInt(2)};
            case "used": return new int[] {some(marks), some(3), some(3)};
            case "two": return new int[] {some(marks), some(marks), some(7)};
            case "steps": return new int[] {some(10), some(10)};
            case "here": return new int[] {some(marks), some(halves), someDay(), some(4)};
            case "halves": return new int[] {some(marks), someDay(), some(3)};
            case "holders": return new int[] {some(halves), someDay()};
            case "shared": return new int[] {someDay()};
            case "refused": return new int[] {someDay(), some(2)};
            case "firstDay": return new int[] {some(marks), some(halves)};
            case "would": return new int[] {0, someClasses(), someDay(), some(4)};
            case "free": return new int[] {0, someDay()};
            case "letterFor": return new int[] {some(marks), someDay()};
            case "group": return new int[] {some(marks)};
            case "ranked": return new int[] {some(halves), someDay(), some(marks)};
            case "file": return new int[] {0, someClasses(), someDay()};
            case "use": return new int[] {some(marks), some(halves), from, from + random.nextInt(12) - 1};
            case "consent": return new int[] {some(marks), some(marks), random.nextInt(3) == 0 ? 0 : 1};
            case "drop": return random.nextInt(5) == 0 ? new int[] {some(marks)} : new int[] {-1};
            case "rule": return someRule();
            case "near": return new int[] {some(10), some(10), random.nextInt(2)};
            case "register": return new int[] {0};
            case "ask": return new int[] {0, someDay()};
            default: return new int[0];
        }
    }

    private int someClasses() {
        int kind = random.nextInt(30);
        return kind == 0 ? random.nextInt(1100) - 30
                : 1 << random.nextInt(1 + random.nextInt(3)) | (kind < 4 ? 1 << kind : 0);
    }

    private int[] someRule() {
        int what = some(6);
        int[] tops = {100, 20, 9, 5, 999, 100};
        int most = what >= 0 && what < 6 ? tops[what] : 10;
        int v = random.nextInt(12) == 0 ? random.nextInt(most + 6) - 3 : random.nextInt(most / (what == 4 ? 40 : 1) + 1);
        if (what == 0 && random.nextInt(4) != 0) {
            v = 30 + random.nextInt(45);
        }
        return new int[] {what, v};
    }

    /** Feeds the text that the call wants and puts its length into the first argument. */
    private boolean feedText(int[] a, String name) {
        String text = name.equals("register") ? someRegister()
                : name.equals("ask") ? someQuestion() : someName();
        log.append("feed ").append(text).append('\n');
        if (model.count(12) > 0 && random.nextInt(2) == 0) {
            return true;
        }
        a[0] = text.length() + (random.nextInt(30) == 0 ? random.nextInt(45) - 20 : 0) + model.count(12);
        boolean fine = true;
        for (int at = 0; at < text.length(); at += 20) {
            int[] n = new int[5];
            for (int k = 0; k < 20; k++) {
                int sign = at + k < text.length() ? text.charAt(at + k) : ' ';
                n[k / 4] = n[k / 4] << 8 | sign & 255;
            }
            int got = field.feed(n[0], n[1], n[2], n[3], n[4]);
            int want = model.feed(n[0], n[1], n[2], n[3], n[4]);
            if (got != want) {
                wrong++;
                fine = false;
                System.out.println("feed answered " + got + ", due is " + want);
            }
        }
        return fine;
    }

    private String pick(String... words) {
        return words[random.nextInt(words.length)];
    }

    private String someName() {
        int kind = random.nextInt(24);
        if (kind == 0) {
            return pick("", "a b", "Abc", "abcdefghijk", "x1", "abcdefghij", "a\n", " a");
        }
        StringBuilder name = new StringBuilder();
        if (kind < 5) {
            int length = 1 + random.nextInt(10);
            for (int k = 0; k < length; k++) {
                name.append((char) ('a' + random.nextInt(26)));
            }
        } else if (kind < 7) {
            int parts = 1 + random.nextInt(5);
            for (int k = 0; k < parts; k++) {
                name.append(pick("ph", "th", "ch", "ck", "sh", "gh", "x", "ce", "ci", "cy", "y", "w", "h", "a", "g"));
            }
        } else {
            name.append(base);
            for (int k = random.nextInt(3); k > 0; k--) {
                name.setCharAt(random.nextInt(name.length()), (char) ('a' + random.nextInt(26)));
            }
            if (random.nextInt(4) == 0) {
                name.insert(random.nextInt(name.length()), pick("a", "h", "l", "s"));
            }
        }
        name.setLength(Math.min(10, name.length()));
        return name.toString();
    }

    private String blank() {
        return random.nextInt(8) == 0 ? pick("  ", "\n", " \n ") : " ";
    }

    private String someRegister() {
        days = random.nextInt(4) == 0 ? 10000 : 20 + random.nextInt(80);
        StringBuilder text = new StringBuilder();
        int lands = 1 + random.nextInt(random.nextInt(3) == 0 ? 6 : 2);
        text.append("lands").append(blank()).append(lands).append(";");
        int marks = 0;
        int lines = random.nextInt(34);
        text.append(pick("", "like 50;", "like 40;crowd 9;room 0;", "lapse 5;", "reach 1;near 0 1;"));
        for (int k = 0; k < lines; k++) {
            switch (marks == 0 && random.nextInt(20) != 0 ? 0 : random.nextInt(8)) {
                case 0:
                case 1:
                case 2:
                    text.append("mark").append(blank()).append(someTextName()).append(blank());
                    text.append(random.nextInt(days)).append(pick("", " 0", " 0 1", " 1", " 0", " 0 2", " 0", " 0"));
                    marks++;
                    break;
                case 3:
                case 4:
                case 5:
                    int from = random.nextInt(days);
                    text.append("use ").append(random.nextInt(Math.max(1, marks))).append(' ');
                    text.append(random.nextInt(2 * lands)).append(blank()).append(from).append(' ');
                    text.append(Math.min(9999, from + random.nextInt(15)));
                    break;
                case 6:
                    if (marks < 2) {
                        text.append("near 1 2");
                    } else {
                        int one = random.nextInt(marks);
                        text.append("consent ").append(one).append(' ').append((one + 1) % marks);
                    }
                    break;
                default:
                    text.append(pick("near 0 1", "near 2 1", "like 35", "crowd 3", "room 1", "reach 2",
                            "lapse 007", "ear 30", "ear 100", "near 9 0", "ear 0", "lapse 0", "reach 1"));
                    break;
            }
            text.append(random.nextInt(6) == 0 ? " ;" : ";");
        }
        if (text.length() > 690) {
            text.setLength(text.lastIndexOf(";", 680) + 1);
        }
        spoil(text, 3);
        return text.toString();
    }

    private String someTextName() {
        String name = someName();
        return name.matches("[a-z]{1,10}") || random.nextInt(8) == 0 ? name : "palto";
    }

    private String someQuestion() {
        StringBuilder text = new StringBuilder(pick("many ", "first ", "many "));
        addTest(text, 0);
        spoil(text, 4);
        if (text.length() > 205) {
            text.setLength(200 + random.nextInt(3));
        }
        return text.toString();
    }

    private void addTest(StringBuilder text, int depth) {
        int parts = 1 + random.nextInt(3);
        for (int k = 0; k < parts; k++) {
            text.append(k == 0 ? "" : pick(" or ", " and "));
            addFact(text, depth);
        }
    }

    private void addFact(StringBuilder text, int depth) {
        int kind = random.nextInt(depth > 8 ? 1 : 4);
        if (kind == 1) {
            text.append("not ");
            addFact(text, depth + 1);
        } else if (kind == 2 && text.length() < 120) {
            text.append('(');
            addTest(text, depth + 1);
            text.append(')');
        } else {
            text.append(value()).append(pick("<", "=", ">", " < ", "=", " >")).append(value());
        }
    }

    private String value() {
        return random.nextInt(2) == 0 ? String.valueOf(random.nextInt(random.nextInt(9) == 0 ? 10010 : 6))
                : pick("mark", "filed", "classes", "uses", "length", "sounds", "field", "holds", "refused");
    }

    /** Now and then a sign is changed, put in or taken out, or the end is cut. */
    private void spoil(StringBuilder text, int chance) {
        if (random.nextInt(chance) != 0 || text.length() == 0) {
            return;
        }
        int at = random.nextInt(text.length());
        String sign = pick("9", "0", "a", ";", " ", "z", "(", "Q", "\n", "1 1", "\t", "" + (char) 233, "not ", "13");
        switch (random.nextInt(4)) {
            case 0: text.insert(at, sign); break;
            case 1: text.deleteCharAt(at); break;
            case 2: text.replace(at, at + 1, sign); break;
            default: text.setLength(at); break;
        }
    }

    private static String answer(Object target, String name, int[] a) {
        for (Method method : target.getClass().getDeclaredMethods()) {
            if (method.getName().equals(name) && method.getParameterCount() == a.length) {
                return answer(target, method, a);
            }
        }
        throw new IllegalStateException("no method " + name);
    }

    private static String answer(Object target, Method method, int[] a) {
        Object[] values = new Object[a.length];
        for (int k = 0; k < a.length; k++) {
            if (method.getParameterTypes()[k] == boolean.class) {
                values[k] = a[k] == 1;
            } else {
                values[k] = a[k];
            }
        }
        try {
            return String.valueOf(method.invoke(target, values));
        } catch (InvocationTargetException e) {
            return e.getCause().getClass().getSimpleName();
        } catch (IllegalAccessException e) {
            throw new IllegalStateException(e);
        }
    }
}
