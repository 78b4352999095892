import java.io.IOException;
import java.net.URL;
import java.net.URLClassLoader;
import java.nio.file.Files;
import java.nio.file.Path;
import java.nio.file.Paths;
import java.util.ArrayList;
import java.util.Comparator;
import java.util.List;
import java.util.regex.Matcher;
import java.util.regex.Pattern;
import java.util.stream.Collectors;
import java.util.stream.Stream;

/** README.md: its examples are Java that answers as they say, and its tables name all calls and all tests. */
final class ReadmeTest {
    private static final Path README = Paths.get("README.md");
    private static final Path DOCUMENT = Paths.get("../shared/DOC.md");
    private static final Path TESTS = Paths.get("src/test/java");

    public static void main(String[] args) throws Exception {
        String readme = Files.readString(README);
        examples(readme);
        callsAreNamed(readme, Files.readString(DOCUMENT));
        testsAreNamed(readme);
        Due.end();
    }

    private static void examples(String readme) throws Exception {
        List<String> blocks = found("(?s)```java\n(.*?)```", readme);
        Due.isTrue("there are examples", !blocks.isEmpty());
        StringBuilder code = new StringBuilder("public final class Examples {\n");
        for (int i = 0; i < blocks.size(); i++) {
            code.append("public static void example").append(i).append("(java.util.List<Object[]> seen) {\n");
            code.append(noting(blocks.get(i))).append("}\n");
        }
        Path place = Files.createTempDirectory("readme");
        try {
            compareExamples(place, code.append("}\n").toString(), blocks.size());
        } finally {
            remove(place);
        }
    }

    /** Each call that the page tells an answer of becomes a note of the call, its answer and the one that is told. */
    private static String noting(String block) {
        StringBuilder code = new StringBuilder();
        for (String line : block.split("\n")) {
            Matcher told = Pattern.compile("(keeper\\.\\w+\\(.*?\\)); *// answers (-?\\d+|[A-Z]+).*").matcher(line);
            if (told.matches()) {
                String due = told.group(2).matches("[A-Z]+") ? "RoomKeeper." + told.group(2) : told.group(2);
                code.append("seen.add(new Object[] {\"").append(told.group(1)).append("\", (long) ")
                    .append(told.group(1)).append(", (long) (").append(due).append(")});\n");
            } else {
                Due.isTrue("an answer is told as 'answers ..' only: " + line, !line.contains("//"));
                code.append(line).append('\n');
            }
        }
        return code.toString();
    }

    private static void compareExamples(Path place, String code, int examples) throws Exception {
        Path file = place.resolve("Examples.java");
        Files.writeString(file, code);
        int failed = new ProcessBuilder("javac", "-cp", System.getProperty("java.class.path"), "-d", place.toString(),
            file.toString()).inheritIO().start().waitFor();
        Due.is("the examples compile", failed, 0);
        if (failed != 0) {
            return;
        }
        try (URLClassLoader loader = new URLClassLoader(new URL[] {place.toUri().toURL()})) {
            for (int i = 0; i < examples; i++) {
                List<Object[]> seen = new ArrayList<>();
                loader.loadClass("Examples").getMethod("example" + i, List.class).invoke(null, seen);
                for (Object[] call : seen) {
                    Due.is("example " + i + " of the page, " + call[0], (Long) call[1], (Long) call[2]);
                }
                Due.isTrue("example " + i + " tells answers", !seen.isEmpty());
            }
        }
    }

    private static void remove(Path place) throws IOException {
        List<Path> files;
        try (Stream<Path> all = Files.walk(place)) {
            files = all.sorted(Comparator.reverseOrder()).collect(Collectors.toList());
        }
        for (Path file : files) {
            Files.delete(file);
        }
    }

    /** The table has a row for each method of the face, with the parameters' names of the document. */
    private static void callsAreNamed(String readme, String document) {
        List<String> due = new ArrayList<>();
        for (String call : found("(?m)^    public (?:int|long) (\\w+\\(.*\\));$", document)) {
            due.add(call.replace("int ", ""));
        }
        Due.is("methods of the face", due.size(), 23);
        List<String> rows = found("(?m)^\\| `(\\w+\\(.*?\\))` \\|", readme);
        Due.isTrue("rows " + rows + ", due are " + due, rows.equals(due));
    }

    private static void testsAreNamed(String readme) throws IOException {
        List<String> due;
        try (Stream<Path> all = Files.list(TESTS)) {
            due = all.map(file -> file.getFileName().toString()).filter(name -> name.endsWith("Test.java"))
                .map(name -> name.replace(".java", "")).sorted().collect(Collectors.toList());
        }
        List<String> rows = found("(?m)^\\| (\\w+Test) \\|", readme);
        rows.sort(Comparator.naturalOrder());
        Due.isTrue("tests " + rows + ", due are " + due, rows.equals(due));
    }

    /** The first group of all places where the pattern is found. */
    private static List<String> found(String pattern, String text) {
        List<String> all = new ArrayList<>();
        Matcher places = Pattern.compile(pattern).matcher(text);
        while (places.find()) {
            all.add(places.group(1));
        }
        return all;
    }
}
