import java.util.ArrayDeque;
import java.util.ArrayList;
import java.util.List;
import java.util.Random;

/** All promises: the class against Oracle, in towns and runs of acts made by a fixed seed. */
public final class OracleTest {
    private static final String[] KINDS = {"plain", "aged", "bearded", "vain"};
    private final Random random;
    private final MirrorHour x = new MirrorHour();
    private final Oracle y;
    private final ArrayDeque<Object[]> undo = new ArrayDeque<>();
    private final List<Object[]> images = new ArrayList<>();

    private OracleTest(Random random, String text) {
        this.random = random;
        y = new Oracle(text);
        Check.due("town of " + text, x.town(Check.feed(x, text)), y.fault != 0 ? -1 : y.people());
        Check.due("fault of " + text, x.fault(), y.fault);
        Check.due("where of " + text, x.where(), y.where);
    }

    public static void main(String[] args) {
        for (int i = 0; i < 20000; i++) {
            Random random = new Random(i);
            new OracleTest(random, spoilt(random, text(random)));
        }
        int runs = 0;
        for (int i = 0; i < 500; i++) {
            Random random = new Random(77_000 + i);
            OracleTest run = new OracleTest(random, text(random));
            if (run.y.fault == 0) {
                runs++;
                for (int k = 0; k < 6; k++) {
                    run.ask();
                    run.acts();
                }
            }
        }
        Check.due("enough towns without a fault", runs > 300, true);
        Check.end("OracleTest");
    }

    // ---- texts

    private static String text(Random r) {
        int marks = 3 + r.nextInt(4);
        int shut = r.nextInt(7);
        StringBuilder t = new StringBuilder("town marks " + marks + " within " + r.nextInt(3)
            + " late " + r.nextInt(4) + " shut " + shut);
        int people = 1 + r.nextInt(5);
        for (int p = 0; p < people; p++) {
            t.append(";person ").append((char) ('p' + p)).append(' ').append(KINDS[r.nextInt(4)]).append(' ');
            int letters = 2 + r.nextInt(3);
            for (int mark = 0; mark < marks; mark++) {
                t.append((char) ('a' + r.nextInt(letters)));
            }
        }
        int changes = r.nextInt(11);
        for (int i = 0; i < changes; i++) {
            t.append(";change ").append(who(r, people)).append(" day ").append(r.nextInt(30))
                .append(" mark ").append(r.nextInt(marks)).append(" by ").append(1 + r.nextInt(3));
        }
        boolean[] taken = new boolean[30];
        int visits = r.nextInt(11);
        for (int i = 0; i < visits; i++) {
            int day = r.nextInt(30);
            if (!taken[day] && day % 7 != shut) {
                t.append(";visit ").append(who(r, people)).append(" day ").append(day);
                taken[day] = true;
            }
        }
        int wishes = r.nextInt(6);
        boolean[] wished = new boolean[150];
        for (int i = 0; i < wishes; i++) {
            int p = r.nextInt(people);
            int day = r.nextInt(30);
            if (!wished[30 * p + day]) {
                t.append(";wish ").append((char) ('p' + p)).append(" day ").append(day);
                wished[30 * p + day] = true;
            }
        }
        boolean[] asked = new boolean[25];
        int asks = r.nextInt(9);
        int asker = r.nextInt(people);
        for (int i = 0; i < asks; i++) {
            int p = r.nextBoolean() ? asker : r.nextInt(people);
            int q = r.nextInt(people);
            if (p != q && !asked[5 * p + q]) {
                asked[5 * p + q] = true;
                int odds = r.nextInt(4) == 0 ? 50 * r.nextInt(3) : 10 * r.nextInt(11) + r.nextInt(2) * r.nextInt(3);
                t.append(";asks ").append((char) ('p' + p)).append(' ').append((char) ('p' + q))
                    .append(" odds ").append(Math.min(odds, 100));
            }
        }
        for (int p = 0; p < people; p++) {
            if (r.nextInt(3) == 0) {
                t.append(";stare ").append((char) ('p' + p)).append(' ').append(r.nextInt(1 + marks));
            }
        }
        return t.toString();
    }

    private static char who(Random r, int people) {
        return (char) ('p' + r.nextInt(people));
    }

    /** A text in which something is out of place, most often. */
    private static String spoilt(Random r, String text) {
        String[] some = {"town", "person", "change", "visit", "wish", "asks", "stare", ";", "p", "q", "z", "day",
            "mark", "by", "odds", "0", "1", "2", "3", "4", "5", "7", "29", "30", "100", "101", "999", "1000",
            "plain", "aged", "vain", "bearded", "abcd", "aaa", "abe", "abcdefgh", "abcdefghi", "!", "A", "-1",
            "visit p day 3", "; visit p day 3 ;", ";asks q p odds 7", ";wish p day 3", ";change p day 1 mark 0 by 1",
            ";person zz plain", ";stare p 1", "\u00ff", "\t", "  "};
        String[] tokens = text.replace(";", " ; ").trim().split(" +");
        int times = r.nextInt(3);
        for (int i = 0; i < times; i++) {
            int at = r.nextInt(tokens.length);
            String other = r.nextInt(4) == 0 ? tokens[r.nextInt(tokens.length)] : some[r.nextInt(some.length)];
            int how = r.nextInt(4);
            tokens[at] = how == 0 ? "" : how == 1 ? other : how == 2 ? tokens[at] + " " + other : other + " " + tokens[at];
        }
        if (r.nextInt(4) == 0) {
            String[] lines = String.join(" ", tokens).split(";");
            String a = lines[r.nextInt(lines.length)];
            lines[r.nextInt(lines.length)] = a;
            return cut(r, String.join(";", lines) + (r.nextBoolean() ? ";" + a : ""));
        }
        return cut(r, String.join(" ", tokens));
    }

    private static String cut(Random r, String text) {
        String t = text.length() > 780 ? text.substring(0, 780) : text;
        return r.nextInt(8) == 0 ? t.substring(0, r.nextInt(t.length() + 1)) : t;
    }

    // ---- calls

    private void ask() {
        int p = random.nextInt(y.people());
        int day = random.nextInt(30);
        days(p, day);
        visits();
        neighbours(p);
        Check.due("guard(" + day + ")", x.guard(day), y.guard(day));
        unknown();
        int seed = random.nextInt(65_537);
        Check.due("month(" + seed + ")", x.month(seed), y.month(seed));
        int n = 1 + random.nextInt(4);
        Check.due("lost(" + p + ", " + seed + ", " + n + ")", x.lost(p, seed, n), y.lost(p, seed, n));
        sizes();
        int[] led = y.led();
        for (int i = 0; i < led.length; i++) {
            Check.led(x, i, led[i]);
        }
        Check.ledThrows(x, led.length);
        Check.ledThrows(x, -1);
    }

    private void days(int p, int day) {
        for (int mark = 0; mark < y.marks; mark++) {
            Check.due("look", x.look(p, day, mark), y.look(p, day, mark));
            Check.due("belief", x.belief(p, day, mark), y.belief(p, day, mark));
            Check.due("papers", x.papers(p, day, mark), y.papers(p, day, mark));
        }
        Check.due("kind", x.kind(p), y.kind(p));
        Check.due("latest", x.latest(p, day), y.latest(p, day));
        Check.due("hall", x.hall(day), y.hall(day));
        Check.due("mistaken", x.mistaken(p, day), y.mistaken(p, day));
        Check.due("knows", x.knows(day), y.knows(day));
        Check.due("stranger", x.stranger(p), y.stranger(p));
        Check.due("passes", x.passes(p, day), y.passes(p, day));
        Check.due("passedBy", x.passedBy(p, day), y.passedBy(p, day));
        Check.due("known", x.known(p), y.known(p));
        Check.due("worst", x.worst(day), y.worst(day));
        Check.due("doubles", x.doubles(day), y.doubles(day));
        Check.due("twins", x.twins(), y.twins());
        Check.due("holds", x.holds(), y.holds());
    }

    private void visits() {
        int broken = y.wishes.size() - y.held();
        // three more visits are tried one after another, which takes long where they aren't enough
        if (broken < 3 && (broken == 0 || random.nextInt(6) == 0)) {
            List<Integer> fewest = y.fewest();
            Check.due("fewest", x.fewest(), fewest == null ? -2 : fewest.size());
            for (int i = 0; fewest != null && i < fewest.size(); i++) {
                Check.due("fewestAt(" + i + ")", x.fewestAt(i), fewest.get(i));
            }
            Check.refused(x, "fewestAt", x.fewestAt(fewest == null ? 0 : fewest.size()), fewest == null ? 6 : 1);
        }
        int[] rings = y.rings();
        for (int p = 0; p < y.people(); p++) {
            Check.due("ring", x.ring(p), rings[p]);
            Check.due("bestDay", x.bestDay(p), y.bestDay(p));
        }
        Check.due("changed", x.changed(), y.changed());
        Check.due("idle", x.idle(), y.idle());
        Check.due("bestSwap", x.bestSwap(), y.bestSwap());
        int day = random.nextInt(30);
        int other = random.nextInt(30);
        boolean so = day != other && y.awaited(day) && y.awaited(other);
        Check.due("swapped", x.swapped(day, other), so ? y.swapped(day, other) : -1);
        Check.due("trouble of swapped", x.trouble(), so ? 0 : 5);
    }

    private void neighbours(int p) {
        Check.due("ask", x.ask(p), y.ask(p));
        Check.due("truth, upper", x.truth(p, false), y.truth(p, false));
        Check.due("truth, lower", x.truth(p, true), y.truth(p, true));
        Check.due("allTell, upper", x.allTell(p, false), y.allTell(p, false));
        Check.due("allTell, lower", x.allTell(p, true), y.allTell(p, true));
    }

    private void unknown() {
        List<String> unknown = y.unknown();
        Check.due("unknown", x.unknown(), unknown.size());
        if (!unknown.isEmpty()) {
            int i = random.nextInt(unknown.size());
            String digits = unknown.get(i).replace('a', '1').replace('b', '2').replace('c', '3').replace('d', '4');
            Check.due("unknownAt(" + i + ")", x.unknownAt(i), Integer.parseInt(digits));
        }
        Check.refused(x, "unknownAt", x.unknownAt(unknown.size()), 1);
        Check.due("pass", x.pass(), y.pass()[0]);
        Check.due("passLeaves", x.passLeaves(), y.pass()[1]);
    }

    private void sizes() {
        int[] sizes = {y.marks, y.within, y.late, y.shut, y.people(), y.changes.size(), y.visits(), y.wishes.size(),
            y.asks.size(), y.stares.size(), y.now, y.shocks.size(), undo.size(), images.size(), 0};
        for (int what = 0; what < sizes.length; what++) {
            Check.due("size(" + what + ")", x.size(what), sizes[what]);
        }
    }

    private void keep() {
        undo.addLast(y.kept());
        if (undo.size() > 16) {
            undo.removeFirst();
        }
    }

    private void acts() {
        int times = random.nextInt(8);
        for (int i = 0; i < times; i++) {
            switch (random.nextInt(9)) {
                case 0, 1 -> book();
                case 2 -> callOff();
                case 3, 4 -> shock();
                case 5 -> days();
                case 6 -> undo();
                case 7 -> image();
                default -> back();
            }
        }
    }

    private void book() {
        int p = random.nextInt(y.people() + 1);
        int day = random.nextInt(31);
        int trouble = p == y.people() ? 1 : day == 30 ? 2 : !y.free(day) ? 5 : 0;
        boolean got = x.book(p, day);
        Check.due("trouble of book", x.trouble(), trouble);
        Check.due("book", got, trouble == 0);
        if (trouble == 0) {
            keep();
            y.hall[day] = p;
        }
    }

    private void callOff() {
        int day = random.nextInt(31);
        int trouble = day == 30 ? 2 : !y.awaited(day) ? 5 : 0;
        boolean got = x.callOff(day);
        Check.due("trouble of callOff", x.trouble(), trouble);
        Check.due("callOff", got, trouble == 0);
        if (trouble == 0) {
            keep();
            y.hall[day] = -2;
        }
    }

    private void shock() {
        int p = random.nextInt(y.people());
        int mark = random.nextInt(y.marks);
        int by = 1 + random.nextInt(4);
        int trouble = by == 4 ? 2 : y.shocks.size() == 12 ? 3 : 0;
        boolean got = x.shock(p, mark, by);
        Check.due("trouble of shock", x.trouble(), trouble);
        Check.due("shock", got, trouble == 0);
        if (trouble == 0) {
            keep();
            y.shocks.add(new int[] {p, y.now, mark, by});
        }
    }

    private void days() {
        int n = 1 + random.nextInt(random.nextBoolean() ? 4 : 30);
        int trouble = n == 30 ? 2 : y.now + n > 29 ? 3 : 0;
        int got = x.days(n);
        Check.due("trouble of days", x.trouble(), trouble);
        Check.due("days", got, trouble == 0 ? y.now + n : -1);
        if (trouble == 0) {
            keep();
            y.now += n;
        }
    }

    private void undo() {
        boolean got = x.undo();
        Check.due("undo", got, !undo.isEmpty());
        Check.due("trouble of undo", x.trouble(), undo.isEmpty() ? 6 : 0);
        if (!undo.isEmpty()) {
            y.goBack(undo.removeLast());
        }
    }

    private void image() {
        int got = x.image();
        Check.due("image", got, images.size() == 3 ? -1 : images.size());
        Check.due("trouble of image", x.trouble(), images.size() == 3 ? 3 : 0);
        if (images.size() < 3) {
            images.add(y.kept());
        }
    }

    private void back() {
        int image = random.nextInt(5) - 1;
        boolean there = image >= 0 && image < images.size();
        boolean got = x.back(image);
        Check.due("back", got, there);
        Check.due("trouble of back", x.trouble(), there ? 0 : 1);
        if (there) {
            y.goBack(images.get(image));
            undo.clear();
        }
    }
}
