import java.math.BigInteger;
import java.util.ArrayList;
import java.util.Arrays;
import java.util.List;
import java.util.TreeSet;

/**
 * The document once more, told as slowly and plainly as can be, to be held against the class.
 * It takes texts, not bytes in numbers, and answers only calls that aren't refused.
 */
final class Oracle {
    private static final String[] LINES = {
        "town marks 3:6 within 0:2 late 0:3 shut 0:6",
        "person NAME KIND LOOK",
        "change PERSON day 0:29 mark 0:M by 1:3",
        "visit PERSON day 0:29",
        "wish PERSON day 0:29",
        "asks PERSON PERSON odds 0:100",
        "stare PERSON 0:N",
    };
    private static final int[] ROOM = {1, 5, 10, 10, 5, 8, 5};
    private static final List<String> KINDS = List.of("plain", "aged", "bearded", "vain");

    int marks;
    int within;
    int late;
    int shut;
    final List<String> names = new ArrayList<>();
    final List<Integer> kinds = new ArrayList<>();
    final List<String> looks = new ArrayList<>();
    final List<int[]> changes = new ArrayList<>();
    final List<int[]> wishes = new ArrayList<>();
    final List<int[]> asks = new ArrayList<>();
    final List<int[]> stares = new ArrayList<>();
    int fault;
    int where = -1;

    int now;
    int[] hall = new int[30];
    List<int[]> shocks = new ArrayList<>();
    private final List<int[]> drawn = new ArrayList<>();

    private final int[] counts = new int[7];
    private final List<String> tokens = new ArrayList<>();
    private final List<Integer> places = new ArrayList<>();

    Oracle(String text) {
        Arrays.fill(hall, -2);
        cut(text);
        read();
    }

    // ---- the text

    private void cut(String text) {
        int i = 0;
        while (i < text.length()) {
            char c = text.charAt(i);
            int from = i;
            if (c == ' ') {
                i++;
                continue;
            }
            String run;
            if (c >= 'a' && c <= 'z') {
                run = text.substring(i).replaceAll("(?s)[^a-z].*", "");
                tokens.add(run.length() > 8 ? "?" : run);
            } else if (c >= '0' && c <= '9') {
                run = text.substring(i).replaceAll("(?s)[^0-9].*", "");
                tokens.add(run.length() > 3 ? "?" : run);
            } else {
                run = "" + c;
                tokens.add(c == ';' ? ";" : "?");
            }
            places.add(from);
            i += run.length();
        }
        tokens.add("");
        places.add(text.length());
    }

    private void read() {
        int at = 0;
        while (fault == 0) {
            int line = lineOf(tokens.get(at));
            TreeSet<Integer> faults = new TreeSet<>();
            if (line < 0) {
                faults.add(1);
            } else {
                if (line == 0 && counts[0] > 0) {
                    faults.add(3);
                }
                if (line > 0 && counts[0] == 0) {
                    faults.add(6);
                }
                if (line > 0 && counts[line] == ROOM[line]) {
                    faults.add(5);
                }
            }
            if (note(faults, at)) {
                return;
            }
            String[] items = LINES[line].split(" ");
            Object[] values = new Object[items.length];
            for (int k = 1; k < items.length; k++) {
                at++;
                if (note(faultsOf(items[k], tokens.get(at), line, k, values), at)) {
                    return;
                }
            }
            take(line, values);
            counts[line]++;
            at++;
            if (tokens.get(at).equals("")) {
                if (names.isEmpty()) {
                    note(new TreeSet<>(List.of(6)), at);
                }
                return;
            }
            if (!tokens.get(at).equals(";")) {
                note(new TreeSet<>(List.of(1)), at);
                return;
            }
            at++;
        }
    }

    private boolean note(TreeSet<Integer> faults, int at) {
        if (faults.isEmpty()) {
            return false;
        }
        fault = faults.first();
        where = places.get(at);
        return true;
    }

    private static int lineOf(String token) {
        for (int i = 0; i < LINES.length; i++) {
            if (LINES[i].startsWith(token + " ")) {
                return i;
            }
        }
        return -1;
    }

    private TreeSet<Integer> faultsOf(String item, String token, int line, int k, Object[] values) {
        TreeSet<Integer> faults = new TreeSet<>();
        boolean word = token.matches("[a-z]+");
        if (item.equals("NAME") || item.equals("PERSON")) {
            boolean name = word && lineOf(token) < 0;
            int p = names.indexOf(token);
            if (!name) {
                faults.add(1);
            } else if (item.equals("NAME") && p >= 0) {
                faults.add(3);
            } else if (item.equals("PERSON") && p < 0) {
                faults.add(2);
            } else if (item.equals("PERSON")) {
                boolean again = line == 5 && k == 2
                    && (p == (Integer) values[1] || has(asks, (Integer) values[1], p))
                    || line == 6 && stareAt(p) >= 0;
                if (again) {
                    faults.add(3);
                }
            }
            values[k] = item.equals("NAME") ? (Object) token : (Object) p;
        } else if (item.equals("KIND")) {
            if (!KINDS.contains(token)) {
                faults.add(1);
            }
            values[k] = token;
        } else if (item.equals("LOOK")) {
            if (!word) {
                faults.add(1);
            } else if (!token.matches("[abcd]{" + marks + "}")) {
                faults.add(7);
            }
            values[k] = token;
        } else if (item.contains(":")) {
            if (!token.matches("[0-9]+")) {
                faults.add(1);
                return faults;
            }
            int whole = Integer.parseInt(token);
            String[] bounds = item.replace("M", "" + (marks - 1)).replace("N", "" + marks).split(":");
            if (whole < Integer.parseInt(bounds[0]) || whole > Integer.parseInt(bounds[1])) {
                faults.add(4);
            } else if (line == 3) {
                if (hall[whole] >= 0) {
                    faults.add(3);
                }
                if (whole % 7 == shut) {
                    faults.add(8);
                }
            } else if (line == 4 && has(wishes, (Integer) values[1], whole)) {
                faults.add(3);
            }
            values[k] = whole;
            if (line == 0 && k == 2 && faults.isEmpty()) {
                marks = whole;
            }
        } else if (!item.equals(token)) {
            faults.add(1);
        }
        return faults;
    }

    private static boolean has(List<int[]> rows, int a, int b) {
        for (int[] row : rows) {
            if (row[0] == a && row[1] == b) {
                return true;
            }
        }
        return false;
    }

    private void take(int line, Object[] values) {
        switch (line) {
            case 0 -> {
                within = (Integer) values[4];
                late = (Integer) values[6];
                shut = (Integer) values[8];
            }
            case 1 -> {
                names.add((String) values[1]);
                kinds.add(KINDS.indexOf(values[2]));
                looks.add((String) values[3]);
            }
            case 2 -> changes.add(new int[] {
                (Integer) values[1], (Integer) values[3], (Integer) values[5], (Integer) values[7]});
            case 3 -> hall[(Integer) values[3]] = (Integer) values[1];
            case 4 -> wishes.add(new int[] {(Integer) values[1], (Integer) values[3]});
            case 5 -> asks.add(new int[] {(Integer) values[1], (Integer) values[2], (Integer) values[4]});
            default -> stares.add(new int[] {(Integer) values[1], (Integer) values[2]});
        }
    }

    private int stareAt(int p) {
        for (int[] stare : stares) {
            if (stare[0] == p) {
                return stare[1];
            }
        }
        return -1;
    }

    // ---- day by day

    int people() {
        return names.size();
    }

    private String on(int p, int day) {
        StringBuilder look = new StringBuilder();
        for (int mark = 0; mark < marks; mark++) {
            int letter = looks.get(p).charAt(mark) - 'a';
            for (List<int[]> rows : List.of(changes, shocks, drawn)) {
                for (int[] row : rows) {
                    if (row[0] == p && row[1] <= day && row[2] == mark) {
                        letter += row[3];
                    }
                }
            }
            if (kinds.get(p) == 1 && mark == 0) {
                letter += day >= 20 ? 2 : day >= 10 ? 1 : 0;
            }
            if (kinds.get(p) == 2 && mark == 1) {
                letter += day / 4;
            }
            look.append((char) ('a' + letter % 4));
        }
        return look.toString();
    }

    int look(int p, int day, int mark) {
        return on(p, day).charAt(mark) - 'a';
    }

    int latest(int p, int day) {
        int latest = -2;
        for (int d = 0; d <= day; d++) {
            latest = hall[d] == p ? d : latest;
        }
        return latest;
    }

    private String believed(int p, int day) {
        int visit = latest(p, day);
        String seen = visit == -2 ? looks.get(p) : on(p, visit < late ? 0 : visit - late);
        return kinds.get(p) == 3 ? "a" + seen.substring(1) : seen;
    }

    private String papered(int p, int day) {
        int visit = latest(p, day);
        return visit == -2 ? looks.get(p) : on(p, visit);
    }

    int belief(int p, int day, int mark) {
        return believed(p, day).charAt(mark) - 'a';
    }

    int papers(int p, int day, int mark) {
        return papered(p, day).charAt(mark) - 'a';
    }

    private int unlike(String a, String b) {
        int unlike = 0;
        for (int i = 0; i < marks; i++) {
            unlike += a.charAt(i) == b.charAt(i) ? 0 : 1;
        }
        return unlike;
    }

    int kind(int p) {
        return kinds.get(p);
    }

    int hall(int day) {
        return day % 7 == shut ? -3 : hall[day];
    }

    int mistaken(int p, int day) {
        return unlike(on(p, day), believed(p, day));
    }

    private boolean knowsHimself(int p, int day) {
        return mistaken(p, day) <= within;
    }

    int knows(int day) {
        int bits = 0;
        for (int p = 0; p < people(); p++) {
            bits += knowsHimself(p, day) ? 1 << p : 0;
        }
        return bits;
    }

    int stranger(int p) {
        int day = 0;
        while (day < 30 && knowsHimself(p, day)) {
            day++;
        }
        return day == 30 ? -2 : day;
    }

    int known(int p) {
        int known = 0;
        for (int day = 0; day < 30; day++) {
            known += knowsHimself(p, day) ? 1 : 0;
        }
        return known;
    }

    private boolean passesFor(int p, int q, int day) {
        return p != q && unlike(on(p, day), papered(q, day)) <= within;
    }

    int passes(int p, int day) {
        int bits = 0;
        for (int q = 0; q < people(); q++) {
            bits += passesFor(p, q, day) ? 1 << q : 0;
        }
        return bits;
    }

    int passedBy(int p, int day) {
        int bits = 0;
        for (int q = 0; q < people(); q++) {
            bits += passesFor(q, p, day) ? 1 << q : 0;
        }
        return bits;
    }

    int doubles(int day) {
        int doubles = 0;
        for (int p = 0; p < people(); p++) {
            doubles += Integer.bitCount(passes(p, day));
        }
        return doubles;
    }

    int worst(int day) {
        for (int unlike = marks; unlike >= 0; unlike--) {
            for (int p = 0; p < people(); p++) {
                if (mistaken(p, day) == unlike) {
                    return p;
                }
            }
        }
        return -77;
    }

    int twins() {
        for (int day = 0; day < 30; day++) {
            TreeSet<String> all = new TreeSet<>();
            for (int p = 0; p < people(); p++) {
                all.add(on(p, day));
            }
            if (all.size() < people()) {
                return day;
            }
        }
        return -2;
    }

    int holds() {
        int bits = 0;
        for (int w = 0; w < wishes.size(); w++) {
            bits += knowsHimself(wishes.get(w)[0], wishes.get(w)[1]) ? 1 << w : 0;
        }
        return bits;
    }

    int held() {
        return Integer.bitCount(holds());
    }

    // ---- visits

    boolean free(int day) {
        return day >= now && hall(day) == -2;
    }

    boolean awaited(int day) {
        return day >= now && hall[day] >= 0;
    }

    /** The fewest more, the least first; null if three aren't enough. Tries whatever can be tried. */
    List<Integer> fewest() {
        for (int n = 0; n <= 3; n++) {
            List<Integer> found = more(n, 0);
            if (found != null) {
                return found;
            }
        }
        return null;
    }

    private List<Integer> more(int n, int from) {
        if (n == 0) {
            return held() == wishes.size() ? new ArrayList<>() : null;
        }
        for (int code = from; code < 300; code++) {
            if (code % 10 < people() && free(code / 10)) {
                hall[code / 10] = code % 10;
                List<Integer> rest = more(n - 1, code + 1);
                hall[code / 10] = -2;
                if (rest != null) {
                    rest.add(0, code);
                    return rest;
                }
            }
        }
        return null;
    }

    private int firstWish(int p) {
        for (int[] wish : wishes) {
            if (wish[0] == p) {
                return wish[1];
            }
        }
        return -1;
    }

    /** The day each has in the rings' end; -2 for who isn't in any. */
    int[] rings() {
        int[] day = new int[people()];
        int[] gets = new int[people()];
        List<Integer> left = new ArrayList<>();
        for (int p = 0; p < people(); p++) {
            gets[p] = -2;
            int visits = 0;
            for (int d = now; d < 30; d++) {
                if (hall[d] == p) {
                    visits++;
                    day[p] = d;
                }
            }
            if (visits == 1 && firstWish(p) >= 0) {
                left.add(p);
            }
        }
        while (!left.isEmpty()) {
            // from the last of them, so that the order differs from the class's
            List<Integer> path = new ArrayList<>();
            int p = left.get(left.size() - 1);
            while (!path.contains(p)) {
                path.add(p);
                p = best(p, left, day);
            }
            for (int q : path.subList(path.indexOf(p), path.size())) {
                gets[q] = day[best(q, left, day)];
            }
            left.removeAll(path.subList(path.indexOf(p), path.size()));
        }
        return gets;
    }

    private int best(int p, List<Integer> left, int[] day) {
        int best = -1;
        for (int d = 29; d >= 0; d--) {
            for (int q : left) {
                if (day[q] == d && (best < 0
                        || Math.abs(d - firstWish(p)) <= Math.abs(day[best] - firstWish(p)))) {
                    best = q;
                }
            }
        }
        return best;
    }

    int changed() {
        int changed = 0;
        int[] gets = rings();
        for (int p = 0; p < people(); p++) {
            changed += gets[p] != -2 && hall[gets[p]] != p ? 1 : 0;
        }
        return changed;
    }

    int bestDay(int p) {
        int best = -2;
        int most = -1;
        for (int day = 29; day >= 0; day--) {
            if (free(day)) {
                hall[day] = p;
                if (held() >= most) {
                    most = held();
                    best = day;
                }
                hall[day] = -2;
            }
        }
        return best;
    }

    int idle() {
        int bits = 0;
        int held = held();
        for (int day = 0; day < 30; day++) {
            if (awaited(day)) {
                int p = hall[day];
                hall[day] = -2;
                bits += held() >= held ? 1 << day : 0;
                hall[day] = p;
            }
        }
        return bits;
    }

    int swapped(int day, int other) {
        int p = hall[day];
        int q = hall[other];
        hall[day] = q;
        hall[other] = p;
        int held = held();
        hall[day] = p;
        hall[other] = q;
        return held;
    }

    int bestSwap() {
        int best = -2;
        int most = held() + 1;
        for (int day = 29; day >= 0; day--) {
            for (int other = 29; other > day; other--) {
                if (awaited(day) && awaited(other) && swapped(day, other) >= most) {
                    most = swapped(day, other);
                    best = 100 * day + other;
                }
            }
        }
        return best;
    }

    // ---- neighbours

    private List<int[]> asked(int p) {
        List<int[]> asked = new ArrayList<>();
        for (int[] ask : asks) {
            if (ask[0] == p) {
                asked.add(ask);
            }
        }
        return asked;
    }

    /** By all the ways in which people tell the truth or don't: {upper, lower}, not in lowest terms. */
    private static BigInteger[] chance(List<int[]> of, boolean all) {
        BigInteger upper = BigInteger.ZERO;
        for (int way = 0; way < 1 << of.size(); way++) {
            int tell = Integer.bitCount(way);
            if (all ? tell == of.size() : 2 * tell > of.size()) {
                BigInteger product = BigInteger.ONE;
                for (int i = 0; i < of.size(); i++) {
                    int odds = of.get(i)[2];
                    product = product.multiply(BigInteger.valueOf((way >> i & 1) == 1 ? odds : 100 - odds));
                }
                upper = upper.add(product);
            }
        }
        return new BigInteger[] {upper, BigInteger.valueOf(100).pow(of.size())};
    }

    private List<int[]> bestSet(int p) {
        List<int[]> asked = asked(p);
        List<int[]> best = new ArrayList<>();
        for (int way = 0; way < 1 << asked.size(); way++) {
            List<int[]> set = new ArrayList<>();
            for (int i = 0; i < asked.size(); i++) {
                if ((way >> i & 1) == 1) {
                    set.add(asked.get(i));
                }
            }
            if (set.size() % 2 == 1 && (best.isEmpty() || better(set, best))) {
                best = set;
            }
        }
        return best;
    }

    private static boolean better(List<int[]> set, List<int[]> best) {
        BigInteger[] a = chance(set, false);
        BigInteger[] b = chance(best, false);
        int order = a[0].multiply(b[1]).compareTo(b[0].multiply(a[1]));
        if (order != 0) {
            return order > 0;
        }
        return set.size() < best.size() || set.size() == best.size() && bits(set) < bits(best);
    }

    private static int bits(List<int[]> set) {
        int bits = 0;
        for (int[] ask : set) {
            bits |= 1 << ask[1];
        }
        return bits;
    }

    int ask(int p) {
        return bits(bestSet(p));
    }

    private static long term(BigInteger[] chance, boolean lower) {
        return chance[lower ? 1 : 0].divide(chance[0].gcd(chance[1])).longValueExact();
    }

    long truth(int p, boolean lower) {
        return term(chance(bestSet(p), false), lower);
    }

    long allTell(int p, boolean lower) {
        return term(chance(asked(p), true), lower);
    }

    // ---- guards, the unknown

    int guard(int day) {
        for (int n = 0; n <= marks; n++) {
            for (int bits = 0; bits < 1 << marks; bits++) {
                if (Integer.bitCount(bits) == n && guarded(bits, day)) {
                    return bits;
                }
            }
        }
        return -2;
    }

    private boolean guarded(int bits, int day) {
        for (int p = 0; p < people(); p++) {
            for (int q = 0; q < people(); q++) {
                boolean like = p != q;
                for (int mark = 0; mark < marks; mark++) {
                    like &= (bits >> mark & 1) == 0 || on(p, day).charAt(mark) == papered(q, day).charAt(mark);
                }
                if (like) {
                    return false;
                }
            }
        }
        return true;
    }

    List<String> unknown() {
        List<String> all = new ArrayList<>(List.of(""));
        for (int mark = 0; mark < marks; mark++) {
            List<String> longer = new ArrayList<>();
            for (String s : all) {
                for (char c = 'a'; c <= 'd'; c++) {
                    longer.add(s + c);
                }
            }
            all = longer;
        }
        List<String> fit = new ArrayList<>();
        for (String look : all) {
            boolean fits = true;
            for (int[] stare : stares) {
                fits &= marks - unlike(look, looks.get(stare[0])) == stare[1];
            }
            if (fits) {
                fit.add(look);
            }
        }
        return fit;
    }

    /** {the person, how many are left}. */
    int[] pass() {
        int[] pass = {-2, -2};
        List<String> fit = unknown();
        for (int p = people() - 1; p >= 0 && !fit.isEmpty(); p--) {
            int most = 0;
            for (int alike = 0; alike <= marks; alike++) {
                int left = 0;
                for (String look : fit) {
                    left += marks - unlike(look, looks.get(p)) == alike ? 1 : 0;
                }
                most = Math.max(most, left);
            }
            if (pass[0] < 0 || most <= pass[1]) {
                pass = new int[] {p, most};
            }
        }
        return pass;
    }

    // ---- months

    private int draw(int seed) {
        return (int) ((75L * seed + 74) % 65537);
    }

    /** Puts a month's draws; the seed then. */
    private int draws(int seed) {
        drawn.clear();
        for (int day = 0; day < 30; day++) {
            int first = draw(seed);
            int second = draw(first);
            drawn.add(new int[] {first % people(), day, second % marks, 1});
            seed = second;
        }
        return seed;
    }

    int month(int seed) {
        draws(seed);
        int days = 0;
        for (int day = 0; day < 30; day++) {
            days += knows(day) == (1 << people()) - 1 ? 0 : 1;
        }
        drawn.clear();
        return days;
    }

    int lost(int p, int seed, int n) {
        int days = 0;
        for (int i = 0; i < n; i++) {
            seed = draws(seed);
            days += 30 - known(p);
        }
        drawn.clear();
        return days;
    }

    // ---- acts are put on from outside; this keeps what is to be gone back to

    int visits() {
        int visits = 0;
        for (int p : hall) {
            visits += p >= 0 ? 1 : 0;
        }
        return visits;
    }

    Object[] kept() {
        return new Object[] {now, hall.clone(), new ArrayList<>(shocks)};
    }

    @SuppressWarnings("unchecked")
    void goBack(Object[] kept) {
        now = (Integer) kept[0];
        hall = ((int[]) kept[1]).clone();
        shocks = new ArrayList<>((List<int[]>) kept[2]);
    }

    int[] led() {
        List<Integer> led = new ArrayList<>();
        for (int p = 0; p < people(); p++) {
            if (!knowsHimself(p, now)) {
                led.add(p);
            }
        }
        return led.stream().mapToInt(Integer::intValue).toArray();
    }
}
