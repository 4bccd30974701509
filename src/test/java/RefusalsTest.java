import java.lang.reflect.Method;
import java.util.HashSet;
import java.util.List;
import java.util.Set;

/**
 * Which numbers each call takes: the least and the greatest are taken, what is beyond them is refused,
 * by the TROUBLE that its promise tells. Each call is asked on a new object in a fresh town.
 */
public final class RefusalsTest {
    /** Four people, three marks; VISITS on the first and the last day; a wish that waits for a VISIT. */
    private static final String TOWN = "town marks 3 within 0 late 0 shut 6;person p plain aaa;person q plain aab"
        + ";person r aged abb;person s vain bbb;visit p day 0;visit q day 29;visit p day 2;change r day 4 mark 1 by 1"
        + ";wish r day 5;asks p q odds 80;stare p 2";

    /** Each call: its name, then each number's name, the least, the greatest, one that is taken, the TROUBLE. */
    private static final String[] CALLS = {
        "look, p 0 3 1 1, day 0 29 5 2, mark 0 2 1 1",
        "belief, p 0 3 1 1, day 0 29 5 2, mark 0 2 1 1",
        "papers, p 0 3 1 1, day 0 29 5 2, mark 0 2 1 1",
        "kind, p 0 3 1 1",
        "latest, p 0 3 1 1, day 0 29 5 2",
        "hall, day 0 29 5 2",
        "mistaken, p 0 3 1 1, day 0 29 5 2",
        "knows, day 0 29 5 2",
        "stranger, p 0 3 1 1",
        "passes, p 0 3 1 1, day 0 29 5 2",
        "passedBy, p 0 3 1 1, day 0 29 5 2",
        "known, p 0 3 1 1",
        "worst, day 0 29 5 2",
        "doubles, day 0 29 5 2",
        "twins",
        "holds",
        "fewest",
        "fewestAt, i 0 0 0 1",
        "ring, p 0 3 1 1",
        "changed",
        "bestDay, p 0 3 1 1",
        "idle",
        "swapped, day 0 29 2 2, other 0 29 0 2",
        "bestSwap",
        "ask, p 0 3 1 1",
        "truth, p 0 3 1 1, lower",
        "allTell, p 0 3 1 1, lower",
        "guard, day 0 29 5 2",
        "unknown",
        "unknownAt, i 0 8 5 1",
        "pass",
        "passLeaves",
        "month, seed 0 65536 7 2",
        "lost, p 0 3 1 1, seed 0 65536 7 2, n 1 20 3 2",
        "book, p 0 3 1 1, day 0 29 5 2",
        "callOff, day 0 29 2 2",
        "shock, p 0 3 1 1, mark 0 2 1 1, by 1 3 2 2",
        "days, n 1 29 4 2",
        "undo",
        "image",
        "back, image 0 2 1 1"};

    /** Edges at which a day is no wrong number, but refused by 5: somebody's; one and the same. */
    private static final Set<String> NOT_SO = Set.of("book day 0", "book day 29", "swapped day 0");

    private RefusalsTest() {
    }

    public static void main(String[] args) throws Exception {
        Set<String> names = new HashSet<>();
        for (String call : CALLS) {
            String[] parts = call.split(", ");
            names.add(parts[0]);
            Method method = method(parts[0]);
            withoutTown(method, parts);
            taken(method, parts);
            for (int k = 1; k < parts.length; k++) {
                edges(method, parts, k);
            }
            allWrong(method, parts);
        }
        everyCall(names);
        tapes();
        Check.end("RefusalsTest");
    }

    private static Method method(String name) {
        for (Method method : MirrorHour.class.getMethods()) {
            if (method.getName().equals(name)) {
                return method;
            }
        }
        throw new IllegalArgumentException(name);
    }

    /** The town with three images and an act that can be undone. */
    private static MirrorHour fresh() {
        MirrorHour x = Check.town(TOWN);
        x.image();
        x.image();
        x.image();
        x.shock(3, 0, 1);
        return x;
    }

    private static Object[] numbers(String[] parts) {
        Object[] numbers = new Object[parts.length - 1];
        for (int k = 1; k < parts.length; k++) {
            String[] number = parts[k].split(" ");
            numbers[k - 1] = number.length == 1 ? (Object) true : (Object) Integer.parseInt(number[3]);
        }
        return numbers;
    }

    private static void asked(MirrorHour x, Method method, Object[] numbers, int trouble) throws Exception {
        String call = method.getName() + List.of(numbers);
        Object answer = method.invoke(x, numbers);
        boolean none = answer.equals(-1) || answer.equals(-1L) || answer.equals(false);
        Check.due("refused: " + call, none, trouble != 0);
        Check.due("trouble() of " + call, x.trouble(), trouble);
        Check.due("where() of " + call, x.where(), -1);
    }

    private static void withoutTown(Method method, String[] parts) throws Exception {
        int trouble = parts[0].equals("undo") ? 6 : 1;
        asked(new MirrorHour(), method, numbers(parts), trouble);
        asked(new MirrorHour(), method, beyond(parts), trouble);
        MirrorHour faulty = new MirrorHour();
        faulty.town(Check.feed(faulty, TOWN + ";"));
        asked(faulty, method, numbers(parts), trouble);
    }

    /** One that isn't refused leaves no TROUBLE of those ahead of it. */
    private static void taken(Method method, String[] parts) throws Exception {
        MirrorHour x = fresh();
        Check.refused(x, "hall(30)", x.hall(30), 2);
        asked(x, method, numbers(parts), parts[0].equals("image") ? 3 : 0);
    }

    private static void edges(Method method, String[] parts, int k) throws Exception {
        String[] number = parts[k].split(" ");
        if (number.length == 1) {
            return;
        }
        int least = Integer.parseInt(number[1]);
        int most = Integer.parseInt(number[2]);
        int trouble = Integer.parseInt(number[4]);
        at(method, parts, k, least, 0);
        at(method, parts, k, most, 0);
        at(method, parts, k, least - 1, trouble);
        at(method, parts, k, most + 1, trouble);
        at(method, parts, k, Integer.MIN_VALUE, trouble);
        at(method, parts, k, Integer.MAX_VALUE, trouble);
    }

    private static void at(Method method, String[] parts, int k, int value, int trouble) throws Exception {
        Object[] numbers = numbers(parts);
        numbers[k - 1] = value;
        String edge = parts[0] + " " + parts[k].split(" ")[0] + " " + value;
        asked(fresh(), method, numbers, NOT_SO.contains(edge) ? 5 : trouble);
    }

    private static Object[] beyond(String[] parts) {
        Object[] numbers = numbers(parts);
        for (int k = 0; k < numbers.length; k++) {
            numbers[k] = numbers[k] instanceof Integer ? (Object) 99_999 : numbers[k];
        }
        return numbers;
    }

    /** Of two troubles the one that the promise tells first. */
    private static void allWrong(Method method, String[] parts) throws Exception {
        int trouble = 9;
        for (int k = 1; k < parts.length; k++) {
            String[] number = parts[k].split(" ");
            trouble = number.length == 1 ? trouble : Math.min(trouble, Integer.parseInt(number[4]));
        }
        if (trouble != 9) {
            asked(fresh(), method, beyond(parts), trouble);
        }
    }

    private static void everyCall(Set<String> names) {
        names.addAll(Set.of("feed", "town", "fault", "where", "led", "size", "trouble"));
        for (Method method : MirrorHour.class.getMethods()) {
            boolean own = method.getDeclaringClass() == MirrorHour.class;
            Check.due("asked here: " + method.getName(), !own || names.contains(method.getName()), true);
        }
    }

    private static void tapes() {
        MirrorHour x = new MirrorHour();
        int n = Check.feed(x, TOWN);
        int fed = x.size(14);
        Check.refused(x, "town(-1)", x.town(-1), 2);
        Check.refused(x, "town: one more than are fed", x.town(fed + 1), 2);
        Check.due("the tape stays", x.size(14), fed);
        Check.due("town(n)", x.town(n), 4);
        Check.due("trouble() then", x.trouble(), 0);
        Check.due("the tape is empty", x.size(14), 0);
        Check.refused(x, "town(1) of an empty tape", x.town(1), 2);
        Check.due("the town stays", x.size(4), 4);
        x.feed(0x20202020, 0x20202020, 0x20202020, 0x20202020, 0x20202020);
        Check.refused(x, "town: all that are fed", x.town(20), 4);
        Check.due("the town stays", x.size(4), 4);
        Check.due("the tape is empty too", x.size(14), 0);
    }
}
