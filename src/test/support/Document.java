import java.io.IOException;
import java.nio.file.Files;
import java.nio.file.Path;
import java.util.ArrayList;
import java.util.LinkedHashMap;
import java.util.List;
import java.util.Map;

/** The sentences of DOC.md by their headings, and which of them a test has named. */
final class Document {
    private final Map<String, StringBuilder> texts = new LinkedHashMap<>();
    private final Map<String, boolean[]> named = new LinkedHashMap<>();

    Document(Path path) throws IOException {
        String heading = "";
        for (String line : Files.readAllLines(path)) {
            if (line.startsWith("## ")) {
                heading = headingOf(line);
            } else if (isPromised(heading) && !isLeftOut(line)) {
                texts.computeIfAbsent(heading, h -> new StringBuilder()).append(sentencesOf(line)).append(' ');
            }
        }
        texts.forEach((h, text) -> named.put(h, new boolean[text.length()]));
    }

    private static String headingOf(String line) {
        String heading = line.substring(3).strip();
        return heading.startsWith("Promise ") ? heading.substring(0, heading.indexOf(':')) : heading;
    }

    private static boolean isPromised(String heading) {
        return heading.equals("What it is") || heading.equals("Terms") || heading.startsWith("Promise ");
    }

    /** What is no sentence to test: fences, the one line that sums all up, and where the interface has its rulers. */
    private static boolean isLeftOut(String line) {
        return line.isBlank() || line.startsWith("```") || line.startsWith("Singly by the wind:")
            || line.startsWith("Ahead of the calls ");
    }

    private static String sentencesOf(String line) {
        return line.strip().replaceFirst("^==== \\d+ ", "");
    }

    /** Marks a sentence as tested; false if it does not stand just once below the heading. */
    boolean name(String heading, String sentence) {
        StringBuilder text = texts.get(heading);
        if (text == null) {
            return false;
        }
        int at = text.indexOf(sentence);
        if (at < 0 || text.indexOf(sentence, at + 1) >= 0) {
            return false;
        }
        java.util.Arrays.fill(named.get(heading), at, at + sentence.length(), true);
        return true;
    }

    /** What no test has named, but for the methods' own lines, which stand between backticks. */
    List<String> unnamed() {
        List<String> all = new ArrayList<>();
        texts.forEach((heading, text) -> {
            StringBuilder rest = new StringBuilder();
            boolean isMethod = false;
            for (int c = 0; c < text.length(); c++) {
                isMethod ^= text.charAt(c) == '`';
                rest.append(isMethod || named.get(heading)[c] ? '\n' : text.charAt(c));
            }
            for (String part : rest.toString().split("\n+")) {
                if (part.chars().anyMatch(Character::isLetterOrDigit)) {
                    all.add(heading + ": " + part.strip());
                }
            }
        });
        return all;
    }
}
