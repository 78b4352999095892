import java.io.IOException;
import java.nio.file.Files;
import java.nio.file.Path;
import java.nio.file.Paths;
import java.util.ArrayList;
import java.util.List;
import java.util.regex.Matcher;
import java.util.regex.Pattern;
import java.util.stream.Collectors;
import java.util.stream.Stream;

/**
 * All promises: the words that tests quote with Due.says stand in the document, and no words of the document are left
 * that no test quotes, but for those below.
 */
final class SentencesTest {
    private static final Path DOCUMENT = Paths.get("../shared/DOC.md");
    private static final Path TESTS = Paths.get("src/test/java");
    /** Headings within the text, words that only lead to what stands behind them, and what is not promised. */
    private static final String[] NOT_TESTED = {"Errors.", "Members and rooms.", "Waiting.", "Rooms in use.", "Ticks.",
        "Log and statistics.", "Scripts.", "To act means, as long as something applies:",
        "The constants:", "The constructor and the methods follow, a promise each: the signature, then what it does.",
        "---- settings", "---- what members do", "---- what is told", "---- scripts", "---- slots, numbers",
        "How the state is held inside the object is free, as are the speed of each call, the text of toString and the "
        + "behaviour of equals and hashCode. Use of one object from several threads at once is not promised to be "
        + "safe. Nothing is promised beyond the answers and state changes described above, and nothing about an object "
        + "after its 512th call."};

    public static void main(String[] args) throws IOException {
        String document = words(Files.readString(DOCUMENT));
        boolean[] isQuoted = new boolean[document.length()];
        for (String part : NOT_TESTED) {
            Due.isTrue("stands in the document: " + part, mark(document, part, isQuoted));
        }
        for (String quote : quotes()) {
            Due.isTrue("stands in the document: " + quote, mark(document, quote, isQuoted));
        }
        for (String part : rest(document, isQuoted)) {
            Due.isTrue("quoted by a test: " + part, false);
        }
        Due.end();
    }

    /** All but the face, the headings and the signatures, which FaceTest tests. */
    private static String words(String document) {
        String text = document.replaceAll("(?s)```.*?```", "");
        return text.replaceAll("(?m)^#.*$", "").replaceAll("(?m)^`[^`]*`$", "").replaceAll("\\s+", " ").trim();
    }

    private static boolean mark(String document, String part, boolean[] isQuoted) {
        int from = document.indexOf(part);
        boolean found = from >= 0;
        while (from >= 0) {
            for (int i = from; i < from + part.length(); i++) {
                isQuoted[i] = true;
            }
            from = document.indexOf(part, from + 1);
        }
        return found;
    }

    private static List<String> rest(String document, boolean[] isQuoted) {
        StringBuilder left = new StringBuilder();
        for (int i = 0; i < isQuoted.length; i++) {
            left.append(isQuoted[i] ? '\n' : document.charAt(i));
        }
        return Stream.of(left.toString().split("\n+")).filter(part -> part.matches(".*\\w.*"))
            .collect(Collectors.toList());
    }

    private static List<String> quotes() throws IOException {
        List<Path> files;
        try (Stream<Path> all = Files.list(TESTS)) {
            files = all.filter(file -> file.toString().endsWith("Test.java")).sorted().collect(Collectors.toList());
        }
        List<String> quotes = new ArrayList<>();
        Pattern literal = Pattern.compile("\"((?:[^\"\\\\]|\\\\.)*)\"");
        Pattern call = Pattern.compile("Due\\.says\\(((?:\\s*\\+?\\s*\"(?:[^\"\\\\]|\\\\.)*\")+)\\);");
        for (Path file : files) {
            Matcher calls = call.matcher(Files.readString(file));
            while (calls.find()) {
                StringBuilder quote = new StringBuilder();
                Matcher parts = literal.matcher(calls.group(1));
                while (parts.find()) {
                    quote.append(parts.group(1));
                }
                quotes.add(quote.toString().replace("\\\"", "\"").replace("\\\\", "\\"));
            }
        }
        Due.isTrue("tests quote the document", !quotes.isEmpty());
        return quotes;
    }
}
