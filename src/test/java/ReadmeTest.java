import java.io.IOException;
import java.lang.reflect.Method;
import java.lang.reflect.Modifier;
import java.net.URL;
import java.net.URLClassLoader;
import java.nio.file.Files;
import java.nio.file.Path;
import java.util.ArrayList;
import java.util.List;
import java.util.regex.Matcher;
import java.util.regex.Pattern;

/** README.md tells the truth: its examples compile, and each call answers what stands behind it. */
public final class ReadmeTest {
    private static final Pattern BLOCK = Pattern.compile("(?s)```java\n(.*?)```");
    private static final Pattern CALL = Pattern.compile("(x\\.\\w+\\(.*?\\));(?: +// (-?\\d+): .*)?");

    private static final List<String> calls = new ArrayList<>();
    private static final List<Long> answersDue = new ArrayList<>();

    public static void main(String[] args) throws Exception {
        Hand.promise = "README.md";
        String readme = Files.readString(Path.of("README.md"));
        String source = sourceOf(readme);
        Hand.due("how many calls the examples have, as 0 or 1", Math.min(1, calls.size()), 1);
        List<Long> answers = answersOf(source);
        Hand.due("how many calls answered", answers.size(), calls.size());
        for (int k = 0; k < Math.min(answers.size(), calls.size()); k++) {
            Hand.due(calls.get(k), answers.get(k), answersDue.get(k));
        }
        lookForEachCall(readme);
        Hand.end("README.md tells the truth: " + calls.size() + " calls");
    }

    /** One class of all examples: a block that begins with static is a member, each other one a body of its own. */
    private static String sourceOf(String readme) {
        StringBuilder members = new StringBuilder();
        StringBuilder bodies = new StringBuilder();
        for (Matcher block = BLOCK.matcher(readme); block.find();) {
            if (block.group(1).startsWith("static ")) {
                members.append(block.group(1));
            } else {
                bodies.append("{\n").append(bodyOf(block.group(1))).append("}\n");
            }
        }
        return "public final class Examples {\n" + members
            + "public static void run(java.util.List<Long> answers) {\n" + bodies + "}\n}\n";
    }

    private static String bodyOf(String block) {
        StringBuilder body = new StringBuilder();
        for (String line : block.split("\n")) {
            Matcher call = CALL.matcher(line);
            if (!call.matches()) {
                body.append(line).append('\n');
            } else if (call.group(2) == null) {
                Hand.due("a call whose answer is not told: " + line, 0, 1);
            } else {
                calls.add(call.group(1));
                answersDue.add(Long.valueOf(call.group(2)));
                body.append("answers.add((long) ").append(call.group(1)).append(");\n");
            }
        }
        return body.toString();
    }

    private static List<Long> answersOf(String source) throws Exception {
        Path into = Files.createTempDirectory("readme");
        Path file = Files.writeString(into.resolve("Examples.java"), source);
        List<Long> answers = new ArrayList<>();
        try {
            int failed = new ProcessBuilder("javac", "-cp", System.getProperty("java.class.path"),
                "-d", into.toString(), file.toString()).inheritIO().start().waitFor();
            Hand.due("compiling the examples", failed, 0);
            if (failed == 0) {
                try (URLClassLoader loader = new URLClassLoader(new URL[] {into.toUri().toURL()})) {
                    loader.loadClass("Examples").getMethod("run", List.class).invoke(null, answers);
                }
            }
        } finally {
            clear(into);
        }
        return answers;
    }

    private static void clear(Path directory) throws IOException {
        try (var files = Files.list(directory)) {
            for (Path file : files.toList()) {
                Files.delete(file);
            }
        }
        Files.delete(directory);
    }

    private static void lookForEachCall(String readme) {
        for (Method m : LakeWind.class.getDeclaredMethods()) {
            if (Modifier.isPublic(m.getModifiers())) {
                Hand.due("README.md names " + m.getName(), readme.contains("`" + m.getName() + "`") ? 1 : 0, 1);
            }
        }
    }
}
