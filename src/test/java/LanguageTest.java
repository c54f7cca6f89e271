import java.io.IOException;
import java.nio.charset.StandardCharsets;
import java.nio.file.Files;
import java.nio.file.Path;
import java.util.Arrays;
import java.util.Set;
import java.util.TreeSet;
import java.util.regex.Matcher;
import java.util.regex.Pattern;

/** The rules of LANGUAGE.md that can be seen in the text of the program. */
public final class LanguageTest {
    private static final String[] NEVER = {
        "\\btry\\b", "\\bcatch\\b", "\\bfinally\\b", "\\bsynchronized\\b", "\\bassert\\b", "->", "::",
        "\\bprotected\\b", "\\bpackage\\b", "\\binstanceof\\b", "\\bextends\\b", "\\bObject\\b", "\\bvar\\b",
        "\\bhashCode\\b", "\\btoString\\b", "\\bequals\\b", "Exact\\b", "\\bSystem\\.(?!arraycopy)",
        "\\bdouble\\b", "\\bfloat\\b", "static \\{", "\" *\\+|\\+ *\"", "\\[\\]\\[\\]", "\\bRandom\\b"};
    private static final Set<String> IMPORTS =
            new TreeSet<>(Arrays.asList("java.util.Arrays", "java.util.NoSuchElementException"));
    private static int wrong = 0;

    private static void complain(String what) {
        wrong++;
        System.out.println(what);
    }

    private static int braces(String line) {
        return (int) line.chars().filter(c -> c == '{').count() - (int) line.chars().filter(c -> c == '}').count();
    }

    /** Length and parameters of each method, at whatever depth it stands. */
    private static void lookAtMethods(String[] lines) {
        Pattern head = Pattern.compile("^ {4,8}(?!return|throw|if|for|while|switch|new)[\\w\\[\\] ]+\\((.*)$");
        for (int at = 0; at < lines.length; at++) {
            Matcher matcher = head.matcher(lines[at]);
            if (!matcher.find() || lines[at].endsWith(";")) {
                continue;
            }
            if (matcher.group(1).split(",").length > 7) {
                complain("more than seven parameters: " + lines[at]);
            }
            int open = 0;
            int end = at;
            do {
                open += braces(lines[end]);
                end++;
            } while (end < lines.length && (open > 0 || !lines[end - 1].contains("{") && end == at + 1));
            if (end - at > 60) {
                complain("a method of " + (end - at) + " lines: " + lines[at]);
            }
        }
    }

    public static void main(String[] args) throws IOException {
        String text = Files.readString(Path.of("src/main/java/MarkField.java"), StandardCharsets.ISO_8859_1);
        for (char sign : text.toCharArray()) {
            if (sign > 126 || sign < 32 && sign != '\n') {
                complain("a sign that is none of 32 to 126: " + (int) sign);
            }
        }
        String code = text.replaceAll("(?s)/\\*.*?\\*/", "").replaceAll("//[^\n]*", "");
        for (String never : NEVER) {
            Matcher matcher = Pattern.compile(never).matcher(code);
            if (matcher.find()) {
                complain("not in the language: " + matcher.group());
            }
        }
        Matcher imports = Pattern.compile("import ([\\w.*]+);").matcher(code);
        while (imports.find()) {
            if (!IMPORTS.contains(imports.group(1))) {
                complain("import of " + imports.group(1));
            }
        }
        Matcher thrown = Pattern.compile("throw ([^;]*);").matcher(code);
        while (thrown.find()) {
            if (!thrown.group(1).matches("new (IllegalArgument|NoSuchElement)Exception\\(\"[^\"]*\"\\)")) {
                complain("throw " + thrown.group(1));
            }
        }
        Matcher fields = Pattern.compile("static (?!final)[\\w\\[\\]]+ \\w+ *[=;]").matcher(code);
        if (fields.find()) {
            complain("a static field that is not final: " + fields.group());
        }
        if (Pattern.compile("\\bclass \\w+").matcher(code).results().count() > 12) {
            complain("more than twelve classes");
        }
        lookAtMethods(code.split("\n"));
        System.out.println(wrong == 0 ? "the language is kept" : wrong + " wrong");
        System.exit(wrong == 0 ? 0 : 1);
    }
}
