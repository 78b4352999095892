import java.io.IOException;
import java.lang.reflect.Constructor;
import java.lang.reflect.Field;
import java.lang.reflect.Method;
import java.lang.reflect.Modifier;
import java.nio.file.Files;
import java.nio.file.Path;
import java.nio.file.Paths;
import java.util.ArrayList;
import java.util.Collections;
import java.util.List;
import java.util.regex.Matcher;
import java.util.regex.Pattern;

/** The public face: the class, its constants and its signatures, and nothing else that can be seen from outside. */
final class FaceTest {
    private static final Path DOCUMENT = Paths.get("../shared/DOC.md");

    public static void main(String[] args) throws IOException {
        String document = Files.readString(DOCUMENT);
        int start = document.indexOf("```java\n"), end = document.indexOf("```\n", start + 1);
        Due.isTrue("the document has a face", start >= 0 && end > start);
        String face = document.substring(Math.max(start, 0), Math.max(end, 0));
        constants(face);
        constructor(face);
        methods(face);
        promises(document);
        Due.end();
    }

    private static void constants(String face) {
        Due.isTrue("constants of the face",
            face.contains("    public static final int NONE = -1, BAD = -2, STATE = -3, FULL = -4;\n"));
        Due.is("NONE", RoomKeeper.NONE, -1);
        Due.is("BAD", RoomKeeper.BAD, -2);
        Due.is("STATE", RoomKeeper.STATE, -3);
        Due.is("FULL", RoomKeeper.FULL, -4);
        int seen = 0;
        for (Field field : RoomKeeper.class.getDeclaredFields()) {
            seen += Modifier.isPrivate(field.getModifiers()) ? 0 : 1;
        }
        Due.is("fields that can be seen", seen, 4);
    }

    private static void constructor(String face) {
        Due.isTrue("class of the face", face.contains("public final class RoomKeeper {\n    public static"));
        Due.is("public and final", RoomKeeper.class.getModifiers(), Modifier.PUBLIC | Modifier.FINAL);
        Due.isTrue("nothing above it", RoomKeeper.class.getSuperclass() == Object.class);
        Due.is("interfaces", RoomKeeper.class.getInterfaces().length, 0);
        Due.isTrue("constructor of the face", face.contains("    public RoomKeeper();\n"));
        Constructor<?>[] constructors = RoomKeeper.class.getDeclaredConstructors();
        Due.is("constructors", constructors.length, 1);
        Due.is("parameters of the constructor", constructors[0].getParameterCount(), 0);
        Due.is("the constructor is public", constructors[0].getModifiers(), Modifier.PUBLIC);
        Due.is("what it throws", constructors[0].getExceptionTypes().length, 0);
    }

    private static void methods(String face) {
        List<String> due = signatures("(?m)^    public (\\w+) (\\w+)\\((.*)\\);$", face);
        List<String> seen = new ArrayList<>();
        for (Method method : RoomKeeper.class.getDeclaredMethods()) {
            if (!Modifier.isPrivate(method.getModifiers())) {
                seen.add(signature(method));
                Due.is(method + " is public and of the object", method.getModifiers(), Modifier.PUBLIC);
                Due.is("what " + method + " throws", method.getExceptionTypes().length, 0);
            }
        }
        Collections.sort(due);
        Collections.sort(seen);
        Due.isTrue("methods " + seen + ", due are " + due, seen.equals(due));
    }

    /** Each promise has the number, the name and the signature that the face has for it, in the face's order. */
    private static void promises(String document) {
        List<String> face = signatures("(?m)^    public (\\w+) (\\w+)\\((.*)\\);$", document);
        List<String> told = signatures("(?m)^`(\\w+) (\\w+)\\((.*)\\)`$", document);
        Due.isTrue("promises " + told + ", due are " + face, told.equals(face));
        Matcher headings = Pattern.compile("(?m)^## Promise (\\d+): (.+)$").matcher(document);
        int number = 0;
        while (headings.find()) {
            number++;
            String name = number == 1 ? "A new object" : headings.group(2);
            Due.is("number of promise " + name, Integer.parseInt(headings.group(1)), number);
            Due.isTrue("name of promise " + number, name.equals(headings.group(2))
                && (number == 1 || face.get(number - 2).contains(" " + name + "(")));
        }
        Due.is("promises", number, 24);
        Due.is("one for each method, and the first", number, face.size() + 1);
    }

    private static List<String> signatures(String pattern, String text) {
        List<String> all = new ArrayList<>();
        Matcher places = Pattern.compile(pattern).matcher(text);
        while (places.find()) {
            String types = places.group(3).replaceAll(" \\w+(, )?", "$1").replace(", ", ",");
            all.add(places.group(1) + " " + places.group(2) + "(" + types + ")");
        }
        return all;
    }

    private static String signature(Method method) {
        StringBuilder text = new StringBuilder();
        text.append(method.getReturnType().getName()).append(' ').append(method.getName()).append('(');
        Class<?>[] types = method.getParameterTypes();
        for (int i = 0; i < types.length; i++) {
            text.append(i == 0 ? "" : ",").append(types[i].getName());
        }
        return text.append(')').toString();
    }
}
