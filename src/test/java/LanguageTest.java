import com.sun.management.ThreadMXBean;
import java.io.IOException;
import java.lang.management.ManagementFactory;
import java.lang.reflect.Method;
import java.lang.reflect.Modifier;
import java.nio.file.Files;
import java.nio.file.Path;
import java.nio.file.Paths;
import java.util.HashSet;
import java.util.Random;
import java.util.Set;
import java.util.regex.Matcher;
import java.util.regex.Pattern;

/** What of LANGUAGE.md can be seen in the text and in the class; and that calls make no objects. */
final class LanguageTest {
    private static final Path SOURCE = Paths.get("src/main/java/RoomKeeper.java");

    public static void main(String[] args) throws IOException {
        String code = withoutComments(Files.readString(SOURCE));
        words(code);
        methods(code);
        loops(code);
        members();
        objects();
        neverThrows();
        Due.end();
    }

    private static String withoutComments(String text) {
        return text.replaceAll("(?s)/\\*.*?\\*/", "").replaceAll("//[^\n]*", "");
    }

    private static void absent(String code, String pattern) {
        Matcher found = Pattern.compile(pattern).matcher(code);
        Due.is("'" + pattern + "' in the class", found.find() ? 1 : 0, 0);
    }

    private static void words(String code) {
        String[] patterns = {"\\bthrow\\b", "\\btry\\b", "\\bcatch\\b", "\\bsynchronized\\b", "\\bassert\\b", "->",
            "::", "\\bimport\\b", "\\bpackage\\b", "Exact\\b", "\\bprotected\\b", "\\bhashCode\\b", "\\btoString\\b",
            "[^\\x00-\\x7f]", "\\bwhile \\(true\\)", "for \\(;;\\)", "\\bstatic \\{"};
        for (String pattern : patterns) {
            absent(code, pattern);
        }
        Matcher classes = Pattern.compile("\\b(class|enum|record|interface) \\w+").matcher(code);
        int count = 0;
        while (classes.find()) {
            count++;
        }
        Due.is("at most 12 classes", count <= 12 ? 1 : 0, 1);
    }

    /** A method begins where its head is indented by 4 or 8 and ends where a brace stands so. */
    private static void methods(String code) {
        String[] lines = code.split("\n");
        int start = -1;
        int indent = 0;
        for (int i = 0; i < lines.length; i++) {
            String head = lines[i].trim();
            int blanks = lines[i].length() - lines[i].stripLeading().length();
            if (start < 0 && blanks >= 4 && head.endsWith(") {")) {
                start = i;
                indent = blanks;
            } else if (start >= 0 && blanks == indent && head.equals("}")) {
                Due.is("at most 60 lines from line " + start + " of the code", i - start < 60 ? 1 : 0, 1);
                start = -1;
            }
        }
    }

    /** Rule 9: the end of a loop is seen from its head, if it counts up to a bound and its body leaves the counter. */
    private static void loops(String code) {
        Matcher heads = Pattern.compile("\\bfor \\((.*)\\) \\{\n").matcher(code);
        int loops = 0;
        while (heads.find()) {
            loops++;
            Matcher head = Pattern.compile("int (\\w+) = [^;]+; \\1 <=? [^;]+; \\1\\+\\+").matcher(heads.group(1));
            boolean counts = head.matches();
            Due.isTrue("counts up to a bound: " + heads.group(), counts);
            String counter = counts ? head.group(1) : "";
            absent(body(code, heads.end()), "\\b" + counter + "(\\+\\+|--| [-+*/%]?= )");
        }
        Due.is("loops that were looked at", loops, code.split("\\bfor\\b").length - 1);
        absent(code, "\\bdo \\{");
    }

    /** What stands up to the brace that closes the one before the place. */
    private static String body(String code, int start) {
        int open = 1;
        int at = start;
        while (at < code.length() && open > 0) {
            open += code.charAt(at) == '{' ? 1 : code.charAt(at) == '}' ? -1 : 0;
            at++;
        }
        return code.substring(start, at);
    }

    private static void members() {
        Set<String> open = new HashSet<>();
        for (Method method : RoomKeeper.class.getDeclaredMethods()) {
            if (Modifier.isPublic(method.getModifiers())) {
                open.add(method.getName());
            }
        }
        checkMembers(RoomKeeper.class, open, false);
        for (Class<?> inner : RoomKeeper.class.getDeclaredClasses()) {
            Due.is(inner + " is static", Modifier.isStatic(inner.getModifiers()) ? 1 : 0, 1);
            checkMembers(inner, open, true);
        }
    }

    private static void checkMembers(Class<?> owner, Set<String> open, boolean isInner) {
        int fields = 0;
        for (java.lang.reflect.Field field : owner.getDeclaredFields()) {
            boolean isStatic = Modifier.isStatic(field.getModifiers());
            fields += isStatic ? 0 : 1;
            Due.is(field + " is final if static", isStatic && !Modifier.isFinal(field.getModifiers()) ? 1 : 0, 0);
        }
        Due.is("at most 20 fields in " + owner, fields <= 20 ? 1 : 0, 1);
        for (Method method : owner.getDeclaredMethods()) {
            boolean bears = open.contains(method.getName());
            boolean isHidden = isInner || Modifier.isPrivate(method.getModifiers());
            Due.is(method + " bears a public name", bears && isHidden ? 1 : 0, 0);
            Due.is(method + " has at most 7 parameters", method.getParameterCount() <= 7 ? 1 : 0, 1);
        }
    }

    /** The second of two equal runs is measured: the machine itself makes objects when it meets code first. */
    private static void objects() {
        ThreadMXBean threads = (ThreadMXBean) ManagementFactory.getThreadMXBean();
        long id = Thread.currentThread().getId();
        long bytes = 0;
        for (int i = 0; i < 2; i++) {
            RoomKeeper x = new RoomKeeper();
            long before = threads.getThreadAllocatedBytes(id);
            calls(x);
            bytes = threads.getThreadAllocatedBytes(id) - before;
        }
        Due.is("calls make less than 20000 bytes, had " + bytes, bytes < 20000 ? 1 : 0, 1);
    }

    private static void calls(RoomKeeper x) {
        for (int letter : new int[] {'5', '0', '(', 'r', 'a', '0', ',', '3', ';', 't', '1', ';', ')'}) {
            x.type(letter);
        }
        for (int i = 0; i < 300; i++) {
            x.request(i % 12, i % 5, 1 + i % 7);
            x.bestQuota(i % 12, 0);
            x.foretell(i % 12);
            x.run();
            x.save(i % 2);
            x.collapse(i % 12);
            x.pass(3);
            x.digest();
            x.restore(i % 2);
        }
    }

    /** More than 512 calls with any numbers on an object: their answers are free then, but none may throw. */
    private static void neverThrows() {
        RoomKeeper x = new RoomKeeper();
        Random random = new Random(549);
        int thrown = 0;
        for (int i = 0; i < 300000; i++) {
            x = i % 1500 == 0 ? new RoomKeeper() : x;
            int kind = random.nextInt(23), a = any(random), b = any(random), c = any(random);
            try {
                anyCall(x, kind, a, b, c);
            } catch (RuntimeException e) {
                thrown++;
                System.out.println("call " + kind + " with " + a + ", " + b + ", " + c + " threw " + e);
            }
        }
        Due.is("calls that threw", thrown, 0);
    }

    private static int any(Random random) {
        int kind = random.nextInt(20);
        if (kind == 0) {
            return random.nextInt();
        }
        if (kind == 1) {
            return random.nextBoolean() ? Integer.MIN_VALUE : Integer.MAX_VALUE;
        }
        return kind < 4 ? random.nextInt(1200) - 100 : random.nextInt(14) - 1;
    }

    private static long anyCall(RoomKeeper x, int kind, int a, int b, int c) {
        switch (kind) {
            case 0: return x.setCapacity(a, b);
            case 1: return x.setShare(a, b);
            case 2: return x.setRule(a, b);
            case 3: return x.withdraw(a);
            case 4: return x.leave(a);
            case 5: return x.collapse(a);
            case 6: return x.pass(a);
            case 7: return x.member(a, b);
            case 8: return x.room(a, b);
            case 9: return x.queue(a, b);
            case 10: return x.event(a, b);
            case 11: return x.unfairness();
            case 12: return x.foretell(a);
            case 13: return x.empties();
            case 14: return x.bestQuota(a, b);
            case 15: return x.type("rwlctabkl014,;( )".charAt(Math.floorMod(a * 31 + b, 17)));
            case 16: return c == 5 ? x.clear() : x.type(a);
            case 17: return x.run();
            case 18: return x.save(a);
            case 19: return c == 5 ? x.restore(a) : x.count(b);
            case 20: return x.digest();
            default: return x.request(a, b, c);
        }
    }
}
