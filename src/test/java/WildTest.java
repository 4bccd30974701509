import java.lang.reflect.InvocationTargetException;
import java.lang.reflect.Method;
import java.util.ArrayList;
import java.util.Comparator;
import java.util.List;
import java.util.NoSuchElementException;
import java.util.Random;

/** Any call with any numbers in any state: only led throws, and only what the document says. */
public final class WildTest {
    private static final int[] EDGES = {Integer.MIN_VALUE, Integer.MAX_VALUE, -3, -2, -1, 0, 1, 2, 3, 4, 5, 6, 7, 12,
        15, 16, 28, 29, 30, 31, 63, 64, 100, 799, 800, 801, 4095, 4096, 65_536, 65_537, 71_582_788, 1 << 30};
    private static final String[] TEXTS = {
        "town marks 3 within 0 late 3 shut 0;person a vain ddd",
        "town marks 6 within 2 late 1 shut 6;person a aged abcdab;person b bearded aaaaaa;person c vain dddddd"
            + ";person d plain abcabc;person e plain bbbbbb;visit a day 0;visit b day 1;visit c day 29;wish a day 29"
            + ";wish b day 12;wish c day 29;wish d day 28;wish e day 0;asks a b odds 100;asks a c odds 0;asks a d odds 50"
            + ";asks a e odds 1;asks b a odds 33;stare a 2;stare e 0;change d day 20 mark 5 by 3;change e day 0 mark 0 by 1",
        "town marks 4 within 1 late 0 shut 3;person a plain abcd;person b plain abcd;stare a 4;stare b 0;visit a day 5",
        "town marks 3;", "person", "\u00ff"};

    private WildTest() {
    }

    public static void main(String[] args) throws Exception {
        List<Method> calls = new ArrayList<>();
        for (Method method : MirrorHour.class.getMethods()) {
            if (method.getDeclaringClass() == MirrorHour.class) {
                calls.add(method);
            }
        }
        calls.sort(Comparator.comparing(Method::getName));
        for (int i = 0; i < 400; i++) {
            run(calls, new Random(i));
        }
        Check.end("WildTest");
    }

    private static void run(List<Method> calls, Random random) throws Exception {
        MirrorHour x = new MirrorHour();
        for (int i = 0; i < 512; i++) {
            if (random.nextInt(120) == 0 || i == 3) {
                x.town(Check.feed(x, TEXTS[random.nextInt(TEXTS.length)]));
            }
            call(x, calls.get(random.nextInt(calls.size())), random);
        }
    }

    private static void call(MirrorHour x, Method method, Random random) throws Exception {
        Object[] numbers = new Object[method.getParameterCount()];
        for (int k = 0; k < numbers.length; k++) {
            boolean bit = method.getParameterTypes()[k] == boolean.class;
            boolean edge = random.nextInt(3) == 0;
            int small = random.nextInt(random.nextBoolean() ? 5 : 30);
            numbers[k] = bit ? (Object) random.nextBoolean() : (Object) (edge ? EDGES[random.nextInt(EDGES.length)] : small);
        }
        int before = x.trouble();
        try {
            Object answer = method.invoke(x, numbers);
            boolean none = answer.equals(-1) || answer.equals(-1L) || answer.equals(false);
            if (!List.of("feed", "fault", "where", "led", "size", "trouble").contains(method.getName())) {
                Check.due(method.getName() + ": refused, told by its answer and by trouble()", none, x.trouble() != 0);
            } else {
                Check.due(method.getName() + " leaves trouble()", x.trouble(), before);
            }
        } catch (InvocationTargetException e) {
            boolean due = method.getName().equals("led") && e.getCause().getClass() == NoSuchElementException.class;
            Check.due(method.getName() + " threw " + e.getCause(), due, true);
        }
    }
}
