import java.lang.reflect.Constructor;
import java.lang.reflect.Field;
import java.lang.reflect.Member;
import java.lang.reflect.Method;
import java.lang.reflect.Modifier;
import java.nio.file.Files;
import java.nio.file.Path;
import java.util.HashSet;
import java.util.List;
import java.util.Set;
import java.util.TreeSet;

/** The public face, and what of LANGUAGE.md can be seen in the file and by its members. */
public final class FaceTest {
    private static final List<String> CALLS = List.of(
        "int feed(int, int, int, int, int)", "int town(int)", "int fault()", "int where()",
        "int look(int, int, int)", "int belief(int, int, int)", "int papers(int, int, int)", "int kind(int)",
        "int latest(int, int)", "int hall(int)", "int mistaken(int, int)", "int knows(int)", "int stranger(int)",
        "int passes(int, int)", "int passedBy(int, int)", "int known(int)", "int worst(int)", "int doubles(int)",
        "int twins()", "int holds()", "int fewest()", "int fewestAt(int)", "int ring(int)", "int changed()",
        "int bestDay(int)", "int idle()", "int swapped(int, int)", "int bestSwap()", "int ask(int)",
        "long truth(int, boolean)", "long allTell(int, boolean)", "int guard(int)", "int unknown()",
        "int unknownAt(int)", "int pass()", "int passLeaves()", "int month(int)", "int lost(int, int, int)",
        "boolean book(int, int)", "boolean callOff(int)", "boolean shock(int, int, int)", "int days(int)",
        "boolean undo()", "int image()", "boolean back(int)", "int led(int)", "int size(int)", "int trouble()");

    private FaceTest() {
    }

    public static void main(String[] args) throws Exception {
        Class<?> face = MirrorHour.class;
        Check.due("public and final", face.getModifiers() == (Modifier.PUBLIC | Modifier.FINAL), true);
        members(face);
        inside(face);
        source();
        Check.end("FaceTest");
    }

    private static void members(Class<?> face) throws Exception {
        Set<String> found = new TreeSet<>();
        Set<String> publicNames = new HashSet<>();
        for (Method method : face.getDeclaredMethods()) {
            if (Modifier.isPublic(method.getModifiers())) {
                StringBuilder call = new StringBuilder(method.getReturnType() + " " + method.getName() + "(");
                for (Class<?> type : method.getParameterTypes()) {
                    call.append(call.charAt(call.length() - 1) == '(' ? "" : ", ").append(type);
                }
                found.add(call + ")");
                publicNames.add(method.getName());
            }
        }
        Check.due("the calls " + found, found.equals(new TreeSet<>(CALLS)), true);
        Check.due("led throws", face.getMethod("led", int.class).getExceptionTypes().length, 1);
        privateNames(face, publicNames);
        for (Class<?> inner : face.getDeclaredClasses()) {
            privateNames(inner, publicNames);
        }
        for (Field field : face.getDeclaredFields()) {
            hidden(field, field.getName().equals("NONE"));
        }
        for (Constructor<?> constructor : face.getDeclaredConstructors()) {
            Check.due("public constructor", Modifier.isPublic(constructor.getModifiers()), true);
        }
        Check.due("one constructor", face.getDeclaredConstructors().length, 1);
    }

    private static void privateNames(Class<?> of, Set<String> publicNames) {
        for (Method method : of.getDeclaredMethods()) {
            if (Modifier.isPrivate(method.getModifiers())) {
                Check.due("private " + method.getName() + " bears a public name", publicNames.contains(method.getName()), false);
            } else if (of == MirrorHour.class) {
                Check.due(method.getName() + " is public", Modifier.isPublic(method.getModifiers()), true);
            }
            Check.due("parameters of " + method.getName(), method.getParameterCount() <= 7, true);
        }
    }

    private static void hidden(Member member, boolean isPublic) {
        int modifiers = member.getModifiers();
        Check.due(member.getName() + " is as public as it should be",
            isPublic ? Modifier.isPublic(modifiers) : Modifier.isPrivate(modifiers), true);
    }

    private static void inside(Class<?> face) {
        for (Class<?> inner : face.getDeclaredClasses()) {
            Check.due(inner + " is static", Modifier.isStatic(inner.getModifiers()), true);
            Check.due(inner + " isn't public", Modifier.isPublic(inner.getModifiers()), false);
            int fields = 0;
            for (Field field : inner.getDeclaredFields()) {
                boolean isStatic = Modifier.isStatic(field.getModifiers());
                fields += isStatic ? 0 : 1;
                Check.due(field + " is final", !isStatic || Modifier.isFinal(field.getModifiers()), true);
            }
            Check.due("fields of " + inner, fields <= 20, true);
        }
        Check.due("at most twelve classes", face.getDeclaredClasses().length <= 11, true);
    }

    private static void source() throws Exception {
        String code = Files.readString(Path.of("src/main/java/MirrorHour.java"));
        for (String banned : new String[] {"->", "::", "catch", "finally", "synchronized", "assert ", "java.util.*",
            "java.io", "java.time", "System.out", "System.nano", "System.current", "Exact(", "instanceof", "toString",
            "hashCode", "ordinal", "var ", "yield", "protected", "String[]"}) {
            Check.due("'" + banned + "' in the code", code.contains(banned), false);
        }
        int imports = code.split("\nimport |^import ").length - 1;
        Check.due("imports", imports, 1);
        for (int i = 0; i < code.length(); i++) {
            Check.due("a sign of 1 to 127 at " + i, code.charAt(i) >= 1 && code.charAt(i) <= 127, true);
        }
    }
}
