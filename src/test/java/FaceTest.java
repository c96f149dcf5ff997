import java.io.IOException;
import java.lang.reflect.Constructor;
import java.lang.reflect.Field;
import java.lang.reflect.Method;
import java.lang.reflect.Modifier;
import java.nio.file.Files;
import java.nio.file.Path;
import java.util.Map;
import java.util.TreeMap;
import java.util.regex.Pattern;

/** The public face, and those rules of LANGUAGE.md that a look at the class or its text can tell. */
public final class FaceTest {
    private static final String SOURCE = "src/main/java/PlatesLookingIn.java";
    private static final Check check = new Check();

    public static void main(String[] args) throws IOException {
        face();
        constants();
        insideClasses();
        words();
        makesOnlyInConstructors();
        check.end();
    }

    private static Map<String, Integer> promised() {
        Map<String, Integer> face = new TreeMap<>();
        String all = "write1 wipe0 fault0 lay0 thing2 slot1 putIn3 turn1 takeOut1 wash1 water1 undo0 stands2 "
            + "clean0 pooled0 room1 place2 byHand1 order1 ways1 weakest0 seen2 forget0 strong0 run3 half2 "
            + "isClean5 day3 keep0 back0 count1";
        for (String one : all.split(" ")) {
            int at = one.length() - 1;
            face.put(one.substring(0, at), one.charAt(at) - '0');
        }
        return face;
    }

    private static void face() {
        Class<?> type = PlatesLookingIn.class;
        Map<String, Integer> face = promised();
        check.due("methods promised", face.size(), 31);
        check.due("final", Modifier.isFinal(type.getModifiers()) ? 1 : 0, 1);
        int open = 0;
        for (Method method : type.getDeclaredMethods()) {
            boolean isPublic = Modifier.isPublic(method.getModifiers());
            boolean isPromised = face.containsKey(method.getName());
            check.due(method.getName() + " is public if promised", isPublic ? 1 : 0, isPromised ? 1 : 0);
            check.due(method.getName() + " is private else",
                isPublic || Modifier.isPrivate(method.getModifiers()) ? 1 : 0, 1);
            if (!isPublic) continue;
            open++;
            check.due(method.getName() + " takes", method.getParameterCount(), face.getOrDefault(method.getName(), -1));
            check.due(method.getName() + " answers an int", method.getReturnType() == int.class ? 1 : 0, 1);
            for (Class<?> taken : method.getParameterTypes()) {
                check.due(method.getName() + " takes ints", taken == int.class ? 1 : 0, 1);
            }
        }
        check.due("public methods", open, face.size());
        Constructor<?>[] made = type.getDeclaredConstructors();
        check.due("constructors", made.length, 1);
        check.due("public", Modifier.isPublic(made[0].getModifiers()) ? 1 : 0, 1);
        check.due("takes nothing", made[0].getParameterCount(), 0);
    }

    private static void constants() {
        check.due("BAD", PlatesLookingIn.BAD, -1);
        check.due("NO", PlatesLookingIn.NO, -2);
        check.due("FULL", PlatesLookingIn.FULL, -3);
        check.due("NONE", PlatesLookingIn.NONE, -4);
        int open = 0;
        for (Field field : PlatesLookingIn.class.getDeclaredFields()) {
            int how = field.getModifiers();
            if (Modifier.isPublic(how)) {
                open++;
            } else {
                check.due(field.getName() + " is private", Modifier.isPrivate(how) ? 1 : 0, 1);
            }
            check.due(field.getName() + " is final if static",
                Modifier.isStatic(how) && !Modifier.isFinal(how) ? 1 : 0, 0);
        }
        check.due("public fields", open, 4);
    }

    private static void insideClasses() {
        Class<?>[] inside = PlatesLookingIn.class.getDeclaredClasses();
        check.due("at most 12 classes", inside.length < 12 ? 1 : 0, 1);
        Map<String, Integer> face = promised();
        for (Class<?> type : inside) {
            check.due(type.getName() + " is static", Modifier.isStatic(type.getModifiers()) ? 1 : 0, 1);
            for (Method method : type.getDeclaredMethods()) {
                check.due(method.getName() + " has a name of its own", face.containsKey(method.getName()) ? 1 : 0, 0);
                check.due(method.getName() + " takes 7 at most", method.getParameterCount() <= 7 ? 1 : 0, 1);
            }
        }
    }

    private static void words() throws IOException {
        String source = Files.readString(Path.of(SOURCE));
        String[] words = {"throw", "throws", "try", "catch", "finally", "synchronized", "assert", "package",
            "Random", "Thread", "System\\.(?!arraycopy)", "Math\\.\\w+Exact", "->", "::"};
        for (String word : words) {
            String found = word.matches("\\w+") ? "\\b" + word + "\\b" : word;
            check.due("'" + word + "' in the source", Pattern.compile(found).matcher(source).find() ? 1 : 0, 0);
        }
        for (int i = 0; i < source.length(); i++) {
            if (source.charAt(i) > 126) check.due("sign at " + i, source.charAt(i), 126);
        }
    }

    /** All calls of a run share one room, so what is made is made with the object. */
    private static void makesOnlyInConstructors() throws IOException {
        int made = 0;
        for (String line : Files.readAllLines(Path.of(SOURCE))) {
            if (!line.matches(".*\\bnew \\w.*") || line.strip().startsWith("//")) continue;
            made++;
            boolean isField = line.matches(" +(private )?final [\\w\\[\\]]+ \\w+ = new .*");
            boolean isInConstructor = line.matches(" +this\\.\\w+ = new .*");
            check.due("made with the object:" + line, isField || isInConstructor ? 1 : 0, 1);
        }
        check.due("something is made", made > 0 ? 1 : 0, 1);
        for (String word : new String[] {"clone\\(", "copyOf", "toCharArray", "substring", "StringBuilder"}) {
            boolean isThere = Pattern.compile(word).matcher(Files.readString(Path.of(SOURCE))).find();
            check.due("'" + word + "', which makes one, in the source", isThere ? 1 : 0, 0);
        }
    }
}
