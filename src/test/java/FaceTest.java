import java.lang.reflect.Constructor;
import java.lang.reflect.Field;
import java.lang.reflect.Method;
import java.lang.reflect.Modifier;
import java.util.Map;
import java.util.TreeMap;
import java.util.TreeSet;

/** The face is the document's: its members with their types and throws clauses, and no others. */
public final class FaceTest {
    private static final String[] METHODS = {
        "int setRate(int,int) IllegalArgumentException",
        "int setFold(int) IllegalArgumentException",
        "int setRule(int,int,int,int,int) IndexOutOfBoundsException IllegalArgumentException",
        "boolean removeRule(int) IndexOutOfBoundsException",
        "int setFile(int,int,int,int) IndexOutOfBoundsException IllegalArgumentException",
        "int message(int,int,int,int,int) IndexOutOfBoundsException IllegalArgumentException IllegalStateException",
        "int pass(int) IllegalArgumentException",
        "int rotate(int) IndexOutOfBoundsException IllegalStateException",
        "int connect() IllegalStateException",
        "int disconnect() IllegalStateException",
        "int send() IllegalStateException",
        "int acknowledge() IllegalStateException",
        "int time()",
        "int tokens(int) IndexOutOfBoundsException",
        "int repeats(int) IndexOutOfBoundsException",
        "int drops(int) IndexOutOfBoundsException",
        "int size(int) IndexOutOfBoundsException",
        "int lines(int,int) IndexOutOfBoundsException",
        "int line(int,int,int) IndexOutOfBoundsException",
        "int generations(int) IndexOutOfBoundsException",
        "int queued()",
        "int inFlight()",
        "int acknowledged()",
        "int lost()",
        "int messages()",
        "int fateOf(int) IndexOutOfBoundsException",
        "int count(int) IndexOutOfBoundsException",
        "int targetsOf(int) IndexOutOfBoundsException",
    };

    public static void main(String[] args) throws Exception {
        Class<?> face = LogSpooler.class;
        Check.due(1, "class is public and final", Modifier.PUBLIC | Modifier.FINAL, face.getModifiers());
        checkConstructor(face);
        checkMethods(face);
        checkConstants(face);
        Check.end("FaceTest");
    }

    private static void checkConstructor(Class<?> face) {
        Constructor<?>[] all = face.getDeclaredConstructors();
        Check.due(1, "number of constructors", 1, all.length);
        Check.due(1, "constructor's modifiers", Modifier.PUBLIC, all[0].getModifiers());
        Check.due(1, "constructor's parameters", 0, all[0].getParameterCount());
    }

    private static void checkMethods(Class<?> face) {
        TreeSet<String> want = new TreeSet<>();
        for (String method : METHODS) {
            want.add(method);
        }
        TreeSet<String> publicNames = new TreeSet<>();
        for (Method method : face.getDeclaredMethods()) {
            if (Modifier.isPublic(method.getModifiers())) {
                publicNames.add(method.getName());
            }
        }
        for (Method method : face.getDeclaredMethods()) {
            if (Modifier.isPrivate(method.getModifiers())) {
                Check.due(0, "private method named as a public one: " + method.getName(), 0,
                        publicNames.contains(method.getName()) ? 1 : 0);
            } else if (!want.remove(told(method))) {
                Check.fault("not in the document's face: " + told(method));
            }
        }
        for (String missing : want) {
            Check.fault("missing in the face: " + missing);
        }
    }

    private static String told(Method method) {
        StringBuilder text = new StringBuilder();
        text.append(method.getReturnType().getName()).append(' ').append(method.getName()).append('(');
        for (int i = 0; i < method.getParameterCount(); i++) {
            text.append(i == 0 ? "" : ",").append(method.getParameterTypes()[i].getName());
        }
        text.append(')');
        for (Class<?> thrown : method.getExceptionTypes()) {
            text.append(' ').append(thrown.getSimpleName());
        }
        return text.toString();
    }

    private static void checkConstants(Class<?> face) throws Exception {
        Map<String, Integer> want = new TreeMap<>(Map.of("NONE", -1, "FORWARD", 4,
                "FOLDED", 0, "LIMITED", 1, "UNROUTED", 2, "ROUTED", 3));
        for (Field field : face.getDeclaredFields()) {
            if (Modifier.isPrivate(field.getModifiers())) {
                continue;
            }
            Integer value = want.remove(field.getName());
            if (value == null) {
                Check.fault("not in the document's face: " + field);
                continue;
            }
            Check.due(0, field.getName() + "'s modifiers",
                    Modifier.PUBLIC | Modifier.STATIC | Modifier.FINAL, field.getModifiers());
            Check.due(0, field.getName(), value, field.getInt(null));
        }
        Check.due(0, "constants that are missing", 0, want.size());
    }
}
