import java.lang.reflect.Constructor;
import java.lang.reflect.Field;
import java.lang.reflect.Method;
import java.lang.reflect.Modifier;
import java.util.ArrayList;
import java.util.Arrays;
import java.util.Collections;
import java.util.List;

/** The public face: the class, its constants and its signatures, and nothing else that can be seen from outside. */
final class FaceTest {
    private static final List<String> METHODS = Arrays.asList(
        "int setCapacity(int,int)", "int setShare(int,int)", "int setRule(int,int)", "int request(int,int,int)",
        "int withdraw(int)", "int leave(int)", "int collapse(int)", "int pass(int)", "int member(int,int)",
        "int room(int,int)", "int queue(int,int)", "int event(int,int)", "int unfairness()", "int foretell(int)",
        "int empties()", "int bestQuota(int,int)", "int type(int)", "int clear()", "int run()", "int save(int)",
        "int restore(int)", "int count(int)", "long digest()");

    public static void main(String[] args) {
        constants();
        signatures();
        Due.end();
    }

    private static void constants() {
        Due.is("NONE", RoomKeeper.NONE, -1);
        Due.is("BAD", RoomKeeper.BAD, -2);
        Due.is("STATE", RoomKeeper.STATE, -3);
        Due.is("FULL", RoomKeeper.FULL, -4);
        int seen = 0;
        for (Field field : RoomKeeper.class.getDeclaredFields()) {
            seen += Modifier.isPrivate(field.getModifiers()) ? 0 : 1;
        }
        Due.is("fields that can be seen", seen, 4);
    }

    private static void signatures() {
        Due.is("public and final", RoomKeeper.class.getModifiers() & (Modifier.PUBLIC | Modifier.FINAL),
            Modifier.PUBLIC | Modifier.FINAL);
        Constructor<?>[] constructors = RoomKeeper.class.getDeclaredConstructors();
        Due.is("constructors", constructors.length, 1);
        Due.is("parameters of the constructor", constructors[0].getParameterCount(), 0);
        Due.is("the constructor is public", constructors[0].getModifiers() & Modifier.PUBLIC, Modifier.PUBLIC);
        List<String> seen = new ArrayList<>();
        for (Method method : RoomKeeper.class.getDeclaredMethods()) {
            if (!Modifier.isPrivate(method.getModifiers())) {
                seen.add(signature(method));
            }
        }
        List<String> want = new ArrayList<>(METHODS);
        Collections.sort(want);
        Collections.sort(seen);
        Due.is("methods " + seen, seen.equals(want) ? 1 : 0, 1);
    }

    private static String signature(Method method) {
        StringBuilder text = new StringBuilder();
        text.append(method.getReturnType().getName()).append(' ').append(method.getName()).append('(');
        Class<?>[] types = method.getParameterTypes();
        for (int i = 0; i < types.length; i++) {
            text.append(i == 0 ? "" : ",").append(types[i].getName());
        }
        return text.append(')').toString();
    }
}
