import java.lang.reflect.Method;
import java.nio.ByteBuffer;
import java.nio.file.Files;
import java.nio.file.Path;
import java.util.Arrays;
import java.util.regex.Matcher;
import java.util.regex.Pattern;

/** That README.md's example is answered as it says, and that its table names each call once. */
public final class ReadmeTest {
    private static final Pattern ANSWERED = Pattern.compile("hour\\.(\\w+)\\(([^)]*)\\); +// (true|false|-?\\d+).*");

    private ReadmeTest() {
    }

    public static void main(String[] args) throws Exception {
        String readme = Files.readString(Path.of("README.md"));
        example(readme);
        table(readme);
        Check.end("ReadmeTest");
    }

    private static void example(String readme) throws Exception {
        MirrorHour hour = new MirrorHour();
        Check.due("tell", tell(hour, block(readme, "text", 1).replace('\n', ' ').trim()), 2);
        String[] lines = block(readme, "java", 2).trim().split("\n");
        Check.due("lines of the example", lines.length > 20, true);
        for (String line : lines) {
            Matcher call = ANSWERED.matcher(line);
            Check.due("a call with its answer: " + line, call.matches(), true);
            if (call.matches()) {
                Check.due(line, answer(hour, call.group(1), call.group(2)).equals(call.group(3)), true);
            }
        }
    }

    /** As README.md has it. */
    private static int tell(MirrorHour hour, String text) {
        byte[] filled = Arrays.copyOf(text.getBytes(), (text.length() + 19) / 20 * 20);
        ByteBuffer bytes = ByteBuffer.wrap(filled);
        while (bytes.hasRemaining()) {
            hour.feed(bytes.getInt(), bytes.getInt(), bytes.getInt(), bytes.getInt(), bytes.getInt());
        }
        return hour.town(text.length());
    }

    /** The n-th block of a sort, from 1 on. */
    private static String block(String readme, String sort, int n) {
        String behind = readme.split("```" + sort + "\n")[n];
        return behind.substring(0, behind.indexOf("```"));
    }

    private static String answer(MirrorHour hour, String name, String numbers) throws Exception {
        String[] told = numbers.isEmpty() ? new String[0] : numbers.split(", ");
        for (Method method : MirrorHour.class.getMethods()) {
            if (method.getName().equals(name) && method.getParameterCount() == told.length) {
                Object[] values = new Object[told.length];
                for (int i = 0; i < told.length; i++) {
                    boolean isWhole = method.getParameterTypes()[i] == int.class;
                    values[i] = isWhole ? (Object) Integer.valueOf(told[i]) : Boolean.valueOf(told[i]);
                }
                return String.valueOf(method.invoke(hour, values));
            }
        }
        return "no such call";
    }

    private static void table(String readme) {
        String rows = readme.substring(readme.indexOf("| calls |"), readme.indexOf("An object is good"));
        for (Method method : MirrorHour.class.getDeclaredMethods()) {
            if (java.lang.reflect.Modifier.isPublic(method.getModifiers())) {
                int times = rows.split("`" + method.getName() + "`", -1).length - 1;
                Check.due("times that the table names " + method.getName(), times, 1);
            }
        }
    }
}
