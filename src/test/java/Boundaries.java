import java.io.IOException;
import java.nio.charset.StandardCharsets;
import java.nio.file.Files;
import java.nio.file.Path;
import java.util.ArrayList;
import java.util.List;

/**
 * Tests that are told with the words of the document on which they rest. Each sentence of a part of
 * the document must have had a test of its own when the part ends.
 */
abstract class Boundaries extends Due {
    private static final Path DOCUMENT = Path.of("../shared/DOC.md");
    private static final List<String> PARTS = new ArrayList<>();
    private static final List<String> QUOTED = new ArrayList<>();
    private static String part = "";
    private static int checksBefore = 0;
    private static int quotes = 0;

    /** What is tested from here on is of a part of the document, told by its heading. */
    static void part(String heading) {
        closePart();
        PARTS.add(heading);
        part = textBehind(heading);
    }

    private static String document() {
        try {
            return Files.readString(DOCUMENT, StandardCharsets.ISO_8859_1);
        } catch (IOException e) {
            throw new IllegalStateException("no document at " + DOCUMENT, e);
        }
    }

    private static String textBehind(String heading) {
        String all = document();
        int from = all.indexOf("\n## " + heading + "\n");
        if (from < 0) {
            throw new IllegalStateException("no part " + heading);
        }
        int start = from + heading.length() + 5;
        int end = all.indexOf("\n## ", start);
        String text = all.substring(start, end < 0 ? all.length() : end).strip();
        return text.startsWith("`") ? text.substring(text.indexOf("`: ") + 3) : text;
    }

    /** The words that the checks from here on rest on. */
    static void says(String words) {
        closeQuote();
        if (!part.contains(words)) {
            complain("the document does not say here: " + words);
        }
        QUOTED.add(words);
        quotes++;
        about = "[" + words + "] ";
    }

    private static void closeQuote() {
        if (!about.isEmpty() && checks == checksBefore) {
            complain("no check rests on these words");
        }
        checksBefore = checks;
        about = "";
    }

    private static void closePart() {
        closeQuote();
        for (String row : part.split("(?<=\\.)\\s+|(?<=;)\\s+(?=NONE)|\\n+")) {
            String sentence = row.strip();
            boolean tested = !isSentence(sentence);
            for (String words : QUOTED) {
                tested |= sentence.contains(words) || words.contains(sentence);
            }
            if (!tested) {
                complain("no test of its own: " + sentence);
            }
        }
        QUOTED.clear();
    }

    /** Fences, numbers of parts and how the grammar is written down tell nothing of the program. */
    private static boolean isSentence(String text) {
        return !text.isEmpty() && !text.startsWith("```") && !text.startsWith("====")
                && !text.startsWith("In quotes is what stands there");
    }

    /** All of these promises must have been parts. */
    static void endOfPromises(int... numbers) {
        closePart();
        for (int number : numbers) {
            String start = "Promise " + number + ": ";
            if (PARTS.stream().noneMatch(heading -> heading.startsWith(start))) {
                complain("no test of promise " + number);
            }
        }
        System.out.print(quotes + " sentences or parts of such, ");
        end();
    }
}
