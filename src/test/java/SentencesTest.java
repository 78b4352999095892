import java.io.IOException;
import java.nio.file.Files;
import java.nio.file.Path;
import java.nio.file.Paths;
import java.util.ArrayList;
import java.util.List;
import java.util.regex.Matcher;
import java.util.regex.Pattern;
import java.util.stream.Collectors;
import java.util.stream.Stream;

/**
 * All promises: the words that tests quote with Due.says stand in the document, and no words of the document's
 * description and promises are left that no test quotes, but for those below.
 */
final class SentencesTest {
    private static final Path DOCUMENT = Paths.get("../shared/DOC.md");
    private static final Path TESTS = Paths.get("src/test/java");
    /** Headings within the promises, and words that only lead to what stands behind them. */
    private static final String[] NOT_TESTED = {"Errors.", "Members and rooms.", "Waiting.", "Rooms in use.", "Ticks.",
        "Log and statistics.", "Scripts.", "To act means, as long as something applies:",
        "The constants:", "The constructor and the methods follow, a promise each: the signature, then what it does.",
        "---- settings", "---- what members do", "---- what is told", "---- scripts", "---- slots, numbers"};

    public static void main(String[] args) throws IOException {
        String document = words(Files.readString(DOCUMENT));
        boolean[] isQuoted = new boolean[document.length()];
        for (String part : NOT_TESTED) {
            mark(document, part, isQuoted);
        }
        for (String quote : quotes()) {
            Due.isTrue("stands in the document: " + quote, mark(document, quote, isQuoted));
        }
        for (String part : rest(document, isQuoted)) {
            Due.isTrue("quoted by a test: " + part, false);
        }
        Due.end();
    }

    /** From the limit of 512 calls on; without the face, the headings and the signatures, which FaceTest tests. */
    private static String words(String document) {
        int start = document.indexOf("An object is used");
        int end = document.indexOf("## Not promised");
        if (start < 0 || end < start) {
            return "";
        }
        String text = document.substring(start, end).replaceAll("(?s)```.*?```", "");
        return text.replaceAll("(?m)^#.*$", "").replaceAll("(?m)^`[^`]*`$", "").replaceAll("\\s+", " ").trim();
    }

    private static boolean mark(String document, String part, boolean[] isQuoted) {
        int from = document.indexOf(part);
        boolean found = from >= 0;
        while (from >= 0) {
            for (int i = from; i < from + part.length(); i++) {
                isQuoted[i] = true;
            }
            from = document.indexOf(part, from + 1);
        }
        return found;
    }

    private static List<String> rest(String document, boolean[] isQuoted) {
        StringBuilder left = new StringBuilder();
        for (int i = 0; i < isQuoted.length; i++) {
            left.append(isQuoted[i] ? '\n' : document.charAt(i));
        }
        return Stream.of(left.toString().split("\n+")).filter(part -> part.matches(".*\\w.*"))
            .collect(Collectors.toList());
    }

    private static List<String> quotes() throws IOException {
        List<Path> files;
        try (Stream<Path> all = Files.list(TESTS)) {
            files = all.filter(file -> file.toString().endsWith("Test.java")).sorted().collect(Collectors.toList());
        }
        List<String> quotes = new ArrayList<>();
        Pattern literal = Pattern.compile("\"((?:[^\"\\\\]|\\\\.)*)\"");
        Pattern call = Pattern.compile("Due\\.says\\(((?:\\s*\\+?\\s*\"(?:[^\"\\\\]|\\\\.)*\")+)\\);");
        for (Path file : files) {
            Matcher calls = call.matcher(Files.readString(file));
            while (calls.find()) {
                StringBuilder quote = new StringBuilder();
                Matcher parts = literal.matcher(calls.group(1));
                while (parts.find()) {
                    quote.append(parts.group(1));
                }
                quotes.add(quote.toString().replace("\\\"", "\"").replace("\\\\", "\\"));
            }
        }
        Due.isTrue("tests quote the document", !quotes.isEmpty());
        return quotes;
    }
}
