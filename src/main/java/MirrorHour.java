import java.util.NoSuchElementException;

/** A town with one mirror that shows late. What each call answers is promised in DOC.md. */
public final class MirrorHour {
    /** There is none; refused. */
    public static final int NONE = -1;

    private static final int NOBODY = -2;
    private static final int NOT_ANY = -2;
    private static final int CLOSED = -3;

    private static final int PEOPLE = 5;
    private static final int MARKS = 6;
    private static final int LETTERS = 4;
    private static final int DAYS = 30;
    private static final int WEEK = 7;
    private static final int WISHES = 5;
    private static final int SHOCKS = 12;
    private static final int IMAGES = 3;
    private static final int MONTHS = 20;
    private static final int SEEDS = 65_537;

    private static final int VAIN = 3;

    private static final int ACCEPTED = 0;
    private static final int NO_SUCH = 1;
    private static final int BAD_NUMBER = 2;
    private static final int NO_ROOM = 3;
    private static final int FAULTY = 4;
    private static final int NOT_SO = 5;
    private static final int EMPTY = 6;

    private final Tape tape;
    private final Reader reader;
    private final State now;
    private final State trial;
    private final State[] images;
    private final Acts acts;
    private final Fewest more;
    private final Rings rings;
    private final Asking asking;
    private final Riddle riddle;
    private Town town;
    private Town spare;
    private int imageCount;
    private int refusal;
    private int townFault;
    private int faultPlace;

    public MirrorHour() {
        tape = new Tape();
        town = new Town();
        spare = new Town();
        reader = new Reader(tape, spare);
        now = new State(town);
        trial = new State(town);
        images = new State[IMAGES];
        for (int i = 0; i < images.length; i++) {
            images[i] = new State(town);
        }
        acts = new Acts();
        more = new Fewest();
        rings = new Rings();
        asking = new Asking();
        riddle = new Riddle();
    }

    // ---- the town

    public int feed(int a, int b, int c, int d, int e) {
        if (!tape.hasRoom()) {
            return NONE;
        }
        tape.add(a);
        tape.add(b);
        tape.add(c);
        tape.add(d);
        tape.add(e);
        return tape.count;
    }

    public int town(int n) {
        if (refused(n < 0 || n > tape.count ? BAD_NUMBER : ACCEPTED)) {
            return NONE;
        }
        townFault = reader.read(spare, n);
        faultPlace = reader.spot;
        tape.empty();
        if (refused(townFault != 0 ? FAULTY : ACCEPTED)) {
            return NONE;
        }
        Town old = town;
        town = spare;
        spare = old;
        now.begin(town);
        acts.forget();
        imageCount = 0;
        return town.people();
    }

    public int fault() {
        return townFault;
    }

    public int where() {
        return refusal == FAULTY ? faultPlace : NONE;
    }

    // ---- day by day (0 .. 29)

    public int look(int p, int day, int mark) {
        return refused(ofMarkOnDay(p, day, mark)) ? NONE : Looks.letter(now.looks.at(p, day), mark);
    }

    public int belief(int p, int day, int mark) {
        return refused(ofMarkOnDay(p, day, mark)) ? NONE : Looks.letter(now.beliefOn(p, day), mark);
    }

    public int papers(int p, int day, int mark) {
        return refused(ofMarkOnDay(p, day, mark)) ? NONE : Looks.letter(now.papersOn(p, day), mark);
    }

    public int kind(int p) {
        return refused(ofPerson(p)) ? NONE : get(town.kinds, p);
    }

    public int latest(int p, int day) {
        return refused(ofPersonOnDay(p, day)) ? NONE : now.latestVisit(p, day);
    }

    public int hall(int day) {
        if (refused(ofDay(day))) {
            return NONE;
        }
        return town.isShut(day) ? CLOSED : now.visitor(day);
    }

    public int mistaken(int p, int day) {
        return refused(ofPersonOnDay(p, day)) ? NONE : now.mistakes(p, day);
    }

    public int knows(int day) {
        return refused(ofDay(day)) ? NONE : now.knowing(day);
    }

    public int stranger(int p) {
        if (refused(ofPerson(p))) {
            return NONE;
        }
        for (int day = 0; day < DAYS; day++) {
            if (!now.knowsSelf(p, day)) {
                return day;
            }
        }
        return NOT_ANY;
    }

    public int passes(int p, int day) {
        if (refused(ofPersonOnDay(p, day))) {
            return NONE;
        }
        int bits = 0;
        for (int q = 0; q < town.people(); q++) {
            bits |= now.passesFor(p, q, day) ? 1 << q : 0;
        }
        return bits;
    }

    public int passedBy(int p, int day) {
        if (refused(ofPersonOnDay(p, day))) {
            return NONE;
        }
        int bits = 0;
        for (int q = 0; q < town.people(); q++) {
            bits |= now.passesFor(q, p, day) ? 1 << q : 0;
        }
        return bits;
    }

    public int known(int p) {
        return refused(ofPerson(p)) ? NONE : DAYS - now.daysLost(p);
    }

    public int worst(int day) {
        if (refused(ofDay(day))) {
            return NONE;
        }
        int worst = 0;
        for (int p = 1; p < town.people(); p++) {
            if (now.mistakes(p, day) > now.mistakes(worst, day)) {
                worst = p;
            }
        }
        return worst;
    }

    public int doubles(int day) {
        if (refused(ofDay(day))) {
            return NONE;
        }
        int pairs = 0;
        for (int p = 0; p < town.people(); p++) {
            for (int q = 0; q < town.people(); q++) {
                pairs += now.passesFor(p, q, day) ? 1 : 0;
            }
        }
        return pairs;
    }

    public int twins() {
        if (refused(ofTown())) {
            return NONE;
        }
        for (int day = 0; day < DAYS; day++) {
            if (now.hasTwins(day)) {
                return day;
            }
        }
        return NOT_ANY;
    }

    public int holds() {
        return refused(ofTown()) ? NONE : now.wishesHeld();
    }

    // ---- visits

    public int fewest() {
        if (refused(ofTown())) {
            return NONE;
        }
        more.search(now);
        return more.count;
    }

    public int fewestAt(int i) {
        if (refused(ofTown())) {
            return NONE;
        }
        more.search(now);
        if (refused(more.count < 0 ? EMPTY : inside(i, more.count) ? ACCEPTED : NO_SUCH)) {
            return NONE;
        }
        return get(more.chosen, i);
    }

    public int ring(int p) {
        if (refused(ofPerson(p))) {
            return NONE;
        }
        rings.trade(now);
        return get(rings.gets, p);
    }

    public int changed() {
        if (refused(ofTown())) {
            return NONE;
        }
        rings.trade(now);
        int others = 0;
        for (int p = 0; p < town.people(); p++) {
            others += get(rings.gets, p) != get(rings.has, p) ? 1 : 0;
        }
        return others;
    }

    public int bestDay(int p) {
        if (refused(ofPerson(p))) {
            return NONE;
        }
        trial.copy(now);
        int best = NOT_ANY;
        int most = -1;
        for (int day = 0; day < DAYS; day++) {
            if (now.isFree(day)) {
                trial.setVisitor(day, p);
                int held = trial.countHeld();
                trial.setVisitor(day, NOBODY);
                best = held > most ? day : best;
                most = Math.max(held, most);
            }
        }
        return best;
    }

    public int idle() {
        if (refused(ofTown())) {
            return NONE;
        }
        trial.copy(now);
        int present = now.countHeld();
        int bits = 0;
        for (int day = 0; day < DAYS; day++) {
            if (now.isAwaited(day)) {
                trial.setVisitor(day, NOBODY);
                bits |= trial.countHeld() >= present ? 1 << day : 0;
                trial.setVisitor(day, now.visitor(day));
            }
        }
        return bits;
    }

    public int swapped(int day, int other) {
        if (refused(ofSwap(day, other))) {
            return NONE;
        }
        trial.copy(now);
        return heldBySwap(day, other);
    }

    public int bestSwap() {
        if (refused(ofTown())) {
            return NONE;
        }
        trial.copy(now);
        int best = NOT_ANY;
        int most = now.countHeld();
        for (int day = 0; day < DAYS; day++) {
            for (int other = day + 1; other < DAYS && now.isAwaited(day); other++) {
                int held = now.isAwaited(other) ? heldBySwap(day, other) : 0;
                best = held > most ? 100 * day + other : best;
                most = Math.max(held, most);
            }
        }
        return best;
    }

    // ---- neighbours

    public int ask(int p) {
        return refused(ofPerson(p)) ? NONE : asking.bestToAsk(town, p);
    }

    public long truth(int p, boolean lower) {
        if (refused(ofPerson(p))) {
            return NONE;
        }
        return Asking.lowestTerm(asking.chanceOfMost(town, p, asking.bestToAsk(town, p)), lower);
    }

    public long allTell(int p, boolean lower) {
        return refused(ofPerson(p)) ? NONE : Asking.lowestTerm(Asking.chanceOfAll(town, p), lower);
    }

    // ---- guards, the unknown

    public int guard(int day) {
        return refused(ofDay(day)) ? NONE : riddle.marksToGuard(now, day);
    }

    public int unknown() {
        return refused(ofTown()) ? NONE : Riddle.countFitting(town);
    }

    public int unknownAt(int i) {
        int look = ofTown() == ACCEPTED ? Riddle.fittingAt(town, i) : NOT_ANY;
        if (refused(look < 0 ? NO_SUCH : ACCEPTED)) {
            return NONE;
        }
        return Looks.digits(look, town.marks);
    }

    public int pass() {
        if (refused(ofTown())) {
            return NONE;
        }
        riddle.choosePass(town);
        return riddle.passBy;
    }

    public int passLeaves() {
        if (refused(ofTown())) {
            return NONE;
        }
        riddle.choosePass(town);
        return riddle.passLeft;
    }

    // ---- months

    public int month(int seed) {
        if (refused(ofTown() != ACCEPTED ? NO_SUCH : inside(seed, SEEDS) ? ACCEPTED : BAD_NUMBER)) {
            return NONE;
        }
        trial.copy(now);
        trial.drift(seed);
        int everybody = (1 << town.people()) - 1;
        int days = 0;
        for (int day = 0; day < DAYS; day++) {
            days += trial.knowing(day) != everybody ? 1 : 0;
        }
        return days;
    }

    public int lost(int p, int seed, int n) {
        boolean numbersFit = inside(seed, SEEDS) && n >= 1 && n <= MONTHS;
        if (refused(ofPerson(p) != ACCEPTED ? NO_SUCH : numbersFit ? ACCEPTED : BAD_NUMBER)) {
            return NONE;
        }
        int days = 0;
        int going = seed;
        for (int i = 0; i < n; i++) {
            trial.copy(now);
            going = trial.drift(going);
            days += trial.daysLost(p);
        }
        return days;
    }

    // ---- acts

    public boolean book(int p, int day) {
        int trouble = ofPersonOnDay(p, day);
        if (refused(trouble == ACCEPTED && !now.isFree(day) ? NOT_SO : trouble)) {
            return false;
        }
        now.setVisitor(day, p);
        acts.note(Acts.BOOK, day, 0, 0);
        return true;
    }

    public boolean callOff(int day) {
        int trouble = ofDay(day);
        if (refused(trouble == ACCEPTED && !now.isAwaited(day) ? NOT_SO : trouble)) {
            return false;
        }
        acts.note(Acts.CALL_OFF, day, now.visitor(day), 0);
        now.setVisitor(day, NOBODY);
        return true;
    }

    public boolean shock(int p, int mark, int by) {
        if (refused(ofShock(p, mark, by))) {
            return false;
        }
        now.looks.goOn(p, mark, now.day, by);
        now.shocks++;
        acts.note(Acts.SHOCK, p, mark, by);
        return true;
    }

    public int days(int n) {
        if (refused(ofGoingBy(n))) {
            return NONE;
        }
        now.day += n;
        acts.note(Acts.DAYS_GO_BY, n, 0, 0);
        return now.day;
    }

    public boolean undo() {
        if (refused(acts.count == 0 ? EMPTY : ACCEPTED)) {
            return false;
        }
        acts.takeBack(now);
        return true;
    }

    public int image() {
        if (refused(ofTown() != ACCEPTED ? NO_SUCH : imageCount >= IMAGES ? NO_ROOM : ACCEPTED)) {
            return NONE;
        }
        int number = imageCount;
        imageCount++;
        State picture = pictureOf(number);
        if (picture != null) {
            picture.copy(now);
        }
        return number;
    }

    public boolean back(int image) {
        State picture = pictureOf(image);
        if (picture != null) {
            now.copy(picture);
            acts.forget();
        }
        return !refused(picture == null ? NO_SUCH : ACCEPTED);
    }

    // ---- what is told

    public int led(int i) throws NoSuchElementException {
        int ahead = 0;
        for (int p = 0; p < town.people(); p++) {
            if (!now.knowsSelf(p, now.day)) {
                if (ahead == i) {
                    return p;
                }
                ahead++;
            }
        }
        throw new NoSuchElementException("nobody of that number is led astray");
    }

    public int size(int what) {
        switch (what) {
            case 0: return town.marks;
            case 1: return town.within;
            case 2: return town.late;
            case 3: return town.shut;
            case 4: return town.people();
            case 5: return town.count(Line.CHANGE);
            case 6: return now.countVisits();
            case 7: return town.count(Line.WISH);
            case 8: return town.count(Line.ASKS);
            case 9: return town.count(Line.STARE);
            case 10: return now.day;
            case 11: return now.shocks;
            case 12: return acts.count;
            case 13: return imageCount;
            case 14: return tape.count;
            default: return NONE;
        }
    }

    public int trouble() {
        return refusal;
    }

    // ---- which TROUBLE a call has with its numbers

    private boolean refused(int trouble) {
        refusal = trouble;
        return trouble != ACCEPTED;
    }

    private int ofTown() {
        return town.people() == 0 ? NO_SUCH : ACCEPTED;
    }

    private int ofPerson(int p) {
        return inside(p, town.people()) ? ACCEPTED : NO_SUCH;
    }

    private int ofDay(int day) {
        return ofTown() != ACCEPTED ? NO_SUCH : inside(day, DAYS) ? ACCEPTED : BAD_NUMBER;
    }

    private int ofPersonOnDay(int p, int day) {
        return ofPerson(p) != ACCEPTED ? NO_SUCH : ofDay(day);
    }

    private int ofMarkOnDay(int p, int day, int mark) {
        return inside(mark, town.marks) ? ofPersonOnDay(p, day) : NO_SUCH;
    }

    private int ofSwap(int day, int other) {
        int trouble = Math.max(ofDay(day), ofDay(other));
        if (trouble != ACCEPTED) {
            return trouble;
        }
        return day != other && now.isAwaited(day) && now.isAwaited(other) ? ACCEPTED : NOT_SO;
    }

    private int ofShock(int p, int mark, int by) {
        if (ofPerson(p) != ACCEPTED || !inside(mark, town.marks)) {
            return NO_SUCH;
        }
        if (by < 1 || by >= LETTERS) {
            return BAD_NUMBER;
        }
        return now.shocks >= SHOCKS ? NO_ROOM : ACCEPTED;
    }

    private int ofGoingBy(int n) {
        if (ofTown() != ACCEPTED) {
            return NO_SUCH;
        }
        if (n < 1 || n >= DAYS) {
            return BAD_NUMBER;
        }
        return now.day + n >= DAYS ? NO_ROOM : ACCEPTED;
    }

    // ---- helpers of the calls

    private int heldBySwap(int day, int other) {
        trial.setVisitor(day, now.visitor(other));
        trial.setVisitor(other, now.visitor(day));
        int held = trial.countHeld();
        trial.setVisitor(day, now.visitor(day));
        trial.setVisitor(other, now.visitor(other));
        return held;
    }

    private State pictureOf(int image) {
        return inside(image, imageCount) && inside(image, images.length) ? images[image] : null;
    }

    private static boolean inside(int i, int bound) {
        return i >= 0 && i < bound;
    }

    private static int get(int[] row, int i) {
        return i >= 0 && i < row.length ? row[i] : 0;
    }

    private static void set(int[] row, int i, int value) {
        if (i >= 0 && i < row.length) {
            row[i] = value;
        }
    }

    private static void fill(int[] row, int value) {
        for (int i = 0; i < row.length; i++) {
            row[i] = value;
        }
    }

    private static void copyRow(int[] from, int[] to) {
        System.arraycopy(from, 0, to, 0, Math.min(from.length, to.length));
    }

    /** The sorts of LINES: the WORD that begins each, and how many there is room for. */
    private enum Line {
        TOWN("town", 0, 1),
        PERSON("person", 1, PEOPLE),
        CHANGE("change", 2, 10),
        VISIT("visit", 3, 10),
        WISH("wish", 4, WISHES),
        ASKS("asks", 5, 8),
        STARE("stare", 6, 5);

        private final String word;
        private final int number;
        private final int room;

        Line(String word, int number, int room) {
            this.word = word;
            this.number = number;
            this.room = room;
        }
    }

    private static final Line[] LINES = Line.values();

    /** THE TAPE, and the TOKENS of its first bytes, one at a time. */
    private static final class Tape {
        private static final int BYTES = 800;
        private static final int FEED = 20;
        private static final int END = 0;
        private static final int BLANK = 1;
        private static final int WORD = 2;
        private static final int WHOLE = 3;
        private static final int SEMICOLON = 4;
        private static final int OTHER = 5;

        private final byte[] bytes = new byte[BYTES];
        private int count;
        private int end;
        private int next;
        private int place;
        private int sort;

        boolean hasRoom() {
            return count + FEED <= BYTES;
        }

        void add(int number) {
            for (int shift = 24; shift >= 0; shift -= 8) {
                if (inside(count, bytes.length)) {
                    bytes[count] = (byte) (number >>> shift);
                    count++;
                }
            }
        }

        void empty() {
            count = 0;
        }

        void begin(int n) {
            end = n;
            next = 0;
            step();
        }

        void step() {
            while (next < end && sortAt(next) == BLANK) {
                next++;
            }
            place = next;
            sort = sortAt(place);
            int most = sort == WORD ? 8 : sort == WHOLE ? 3 : 1;
            next = Math.min(place + 1, end);
            while (next < end && most > 1 && sortAt(next) == sort) {
                next++;
            }
            if (next - place > most) {
                sort = OTHER;
            }
        }

        private int byteAt(int i) {
            return i >= 0 && i < end && i < bytes.length ? bytes[i] : 0;
        }

        private int sortAt(int i) {
            if (i < 0 || i >= end || i >= bytes.length) {
                return END;
            }
            int b = bytes[i];
            if (b >= 'a' && b <= 'z') {
                return WORD;
            }
            if (b >= '0' && b <= '9') {
                return WHOLE;
            }
            return b == ' ' ? BLANK : b == ';' ? SEMICOLON : OTHER;
        }

        boolean is(String word) {
            if (sort != WORD || next - place != word.length()) {
                return false;
            }
            for (int i = 0; i < word.length(); i++) {
                if (byteAt(place + i) != word.charAt(i)) {
                    return false;
                }
            }
            return true;
        }

        /** The WORD as one number: eight letters of 27 (0 for none) fit into a long. */
        long name() {
            long name = 0;
            for (int i = place; i < next; i++) {
                name = 27 * name + (byteAt(i) - 'a' + 1);
            }
            return name;
        }

        int whole() {
            int whole = 0;
            for (int i = place; i < next; i++) {
                whole = 10 * whole + (byteAt(i) - '0');
            }
            return whole;
        }

        /** The WORD as a LOOK of so many marks; NOT_ANY if it is none. */
        int lookOf(int marks) {
            if (sort != WORD || next - place != marks) {
                return NOT_ANY;
            }
            int look = 0;
            for (int mark = 0; mark < marks; mark++) {
                int letter = byteAt(place + mark) - 'a';
                if (letter >= LETTERS) {
                    return NOT_ANY;
                }
                look = Looks.goneOn(look, mark, letter);
            }
            return look;
        }
    }

    /** Reads a TOWN from THE TAPE up to its first FAULT. */
    private static final class Reader {
        private static final int FORM = 1;
        private static final int UNTOLD = 2;
        private static final int AGAIN = 3;
        private static final int BOUNDS = 4;
        private static final int MANY = 5;
        private static final int LACKS = 6;
        private static final int NO_LOOK = 7;
        private static final int SHUT = 8;

        private final Tape tape;
        private Town town;
        private int value;
        private int spot;
        private int fault;

        Reader(Tape tape, Town town) {
            this.tape = tape;
            this.town = town;
        }

        /** The FAULT of the first n bytes, at spot; 0 if they tell a TOWN. */
        int read(Town into, int n) {
            town = into;
            town.forget();
            fault = 0;
            tape.begin(n);
            boolean goesOn = true;
            for (int lines = 0; lines <= Tape.BYTES && goesOn; lines++) {
                goesOn = line() && tape.sort == Tape.SEMICOLON;
                if (goesOn) {
                    tape.step();
                }
            }
            if (fault == 0) {
                spot = tape.place;
                fault = tape.sort != Tape.END ? FORM : town.people() == 0 ? LACKS : 0;
            }
            return fault;
        }

        private boolean fail(int number) {
            fault = number;
            return false;
        }

        private boolean line() {
            spot = tape.place;
            Line line = lineNamed();
            if (line == null) {
                return fail(FORM);
            }
            if (line != Line.TOWN && town.count(Line.TOWN) == 0) {
                return fail(LACKS);
            }
            if (town.count(line) >= line.room) {
                return fail(line == Line.TOWN ? AGAIN : MANY);
            }
            tape.step();
            boolean told;
            switch (line) {
                case TOWN: told = townLine(); break;
                case PERSON: told = personLine(); break;
                case CHANGE: told = changeLine(); break;
                case VISIT: told = visitLine(); break;
                case WISH: told = wishLine(); break;
                case ASKS: told = asksLine(); break;
                default: told = stareLine(); break;
            }
            if (told) {
                town.countOn(line);
            }
            return told;
        }

        private Line lineNamed() {
            for (Line line : LINES) {
                if (tape.is(line.word)) {
                    return line;
                }
            }
            return null;
        }

        private boolean townLine() {
            if (!wholeBehind("marks", 3, MARKS)) {
                return false;
            }
            town.marks = value;
            if (!wholeBehind("within", 0, 2)) {
                return false;
            }
            town.within = value;
            if (!wholeBehind("late", 0, 3)) {
                return false;
            }
            town.late = value;
            if (!wholeBehind("shut", 0, WEEK - 1)) {
                return false;
            }
            town.shut = value;
            return true;
        }

        private boolean personLine() {
            spot = tape.place;
            if (tape.sort != Tape.WORD || lineNamed() != null) {
                return fail(FORM);
            }
            long name = tape.name();
            if (town.personNamed(name) >= 0) {
                return fail(AGAIN);
            }
            tape.step();
            if (!kindWord()) {
                return false;
            }
            int kind = value;
            if (!lookWord()) {
                return false;
            }
            town.addPerson(name, kind, value);
            return true;
        }

        private boolean changeLine() {
            if (!person()) {
                return false;
            }
            int p = value;
            if (!wholeBehind("day", 0, DAYS - 1)) {
                return false;
            }
            int day = value;
            if (!wholeBehind("mark", 0, town.marks - 1)) {
                return false;
            }
            int mark = value;
            if (!wholeBehind("by", 1, LETTERS - 1)) {
                return false;
            }
            town.looks.goOn(p, mark, day, value);
            return true;
        }

        private boolean visitLine() {
            if (!person()) {
                return false;
            }
            int p = value;
            if (!wholeBehind("day", 0, DAYS - 1)) {
                return false;
            }
            if (get(town.visits, value) != NOBODY) {
                return fail(AGAIN);
            }
            if (town.isShut(value)) {
                return fail(SHUT);
            }
            set(town.visits, value, p);
            return true;
        }

        private boolean wishLine() {
            if (!person()) {
                return false;
            }
            int p = value;
            if (!wholeBehind("day", 0, DAYS - 1)) {
                return false;
            }
            if (town.isWished(p, value)) {
                return fail(AGAIN);
            }
            int w = town.count(Line.WISH);
            set(town.wishPerson, w, p);
            set(town.wishDay, w, value);
            return true;
        }

        private boolean asksLine() {
            if (!person()) {
                return false;
            }
            int p = value;
            if (!person()) {
                return false;
            }
            int q = value;
            if (q == p || town.asks(p, q)) {
                return fail(AGAIN);
            }
            if (!wholeBehind("odds", 0, 100)) {
                return false;
            }
            set(town.odds, p * PEOPLE + q, value);
            return true;
        }

        private boolean stareLine() {
            if (!person()) {
                return false;
            }
            int p = value;
            if (town.isStaredAt(p)) {
                return fail(AGAIN);
            }
            if (!whole(0, town.marks)) {
                return false;
            }
            set(town.stares, p, value);
            return true;
        }

        /** A PERSON told already; his number is the value, his NAME's place the spot. */
        private boolean person() {
            spot = tape.place;
            if (tape.sort != Tape.WORD || lineNamed() != null) {
                return fail(FORM);
            }
            value = town.personNamed(tape.name());
            if (value < 0) {
                return fail(UNTOLD);
            }
            tape.step();
            return true;
        }

        private boolean wholeBehind(String word, int least, int most) {
            spot = tape.place;
            if (!tape.is(word)) {
                return fail(FORM);
            }
            tape.step();
            return whole(least, most);
        }

        private boolean whole(int least, int most) {
            spot = tape.place;
            if (tape.sort != Tape.WHOLE) {
                return fail(FORM);
            }
            value = tape.whole();
            if (value < least || value > most) {
                return fail(BOUNDS);
            }
            tape.step();
            return true;
        }

        private boolean kindWord() {
            spot = tape.place;
            value = tape.is("plain") ? 0
                : tape.is("aged") ? Town.AGED
                : tape.is("bearded") ? Town.BEARDED
                : tape.is("vain") ? VAIN : NOT_ANY;
            if (value < 0) {
                return fail(FORM);
            }
            tape.step();
            return true;
        }

        private boolean lookWord() {
            spot = tape.place;
            if (tape.sort != Tape.WORD) {
                return fail(FORM);
            }
            value = tape.lookOf(town.marks);
            if (value < 0) {
                return fail(NO_LOOK);
            }
            tape.step();
            return true;
        }
    }

    /** A TOWN as told. One without people is none. */
    private static final class Town {
        private static final int AGED = 1;
        private static final int BEARDED = 2;

        private int marks;
        private int within;
        private int late;
        private int shut;
        private final int[] counts = new int[LINES.length];
        private final long[] names = new long[PEOPLE];
        private final int[] kinds = new int[PEOPLE];
        private final int[] told = new int[PEOPLE];
        private final Looks looks = new Looks();
        private final int[] visits = new int[DAYS];
        private final int[] wishPerson = new int[WISHES];
        private final int[] wishDay = new int[WISHES];
        private final int[] odds = new int[PEOPLE * PEOPLE];
        private final int[] stares = new int[PEOPLE];

        Town() {
            forget();
        }

        void forget() {
            marks = 0;
            within = 0;
            late = 0;
            shut = 0;
            fill(counts, 0);
            fill(visits, NOBODY);
            fill(odds, NOT_ANY);
            fill(stares, NOT_ANY);
        }

        int count(Line line) {
            return get(counts, line.number);
        }

        void countOn(Line line) {
            set(counts, line.number, count(line) + 1);
        }

        int people() {
            return get(counts, Line.PERSON.number);
        }

        int wishes() {
            return get(counts, Line.WISH.number);
        }

        int personNamed(long name) {
            for (int p = 0; p < people() && p < names.length; p++) {
                if (names[p] == name) {
                    return p;
                }
            }
            return NOT_ANY;
        }

        void addPerson(long name, int kind, int look) {
            int p = people();
            if (!inside(p, names.length)) {
                return;
            }
            names[p] = name;
            set(kinds, p, kind);
            set(told, p, look);
            looks.begin(p, look);
            if (kind == AGED) {
                goOnEach(p, 0, 10);
            }
            if (kind == BEARDED) {
                goOnEach(p, 1, 4);
            }
        }

        private void goOnEach(int p, int mark, int days) {
            for (int day = 0; day < DAYS; day++) {
                if (day > 0 && days > 0 && day % days == 0) {
                    looks.goOn(p, mark, day, 1);
                }
            }
        }

        boolean isShut(int day) {
            return day % WEEK == shut;
        }

        boolean isWished(int p, int day) {
            for (int w = 0; w < wishes(); w++) {
                if (get(wishPerson, w) == p && get(wishDay, w) == day) {
                    return true;
                }
            }
            return false;
        }

        /** The day of one's first wish as told; NOT_ANY without one. */
        int firstWish(int p) {
            for (int w = 0; w < wishes(); w++) {
                if (get(wishPerson, w) == p) {
                    return get(wishDay, w);
                }
            }
            return NOT_ANY;
        }

        boolean asks(int p, int q) {
            return oddsOf(p, q) >= 0;
        }

        int oddsOf(int p, int q) {
            return inside(p, people()) && inside(q, people()) ? get(odds, p * PEOPLE + q) : NOT_ANY;
        }

        boolean isStaredAt(int p) {
            return get(stares, p) >= 0;
        }
    }

    /**
     * The LOOK of each person on each day. A LOOK has two bits a mark, mark 0 the highest, so that
     * LOOKS stand by letters as numbers do.
     */
    private static final class Looks {
        private static final int MARK_0 = 3 << 2 * (MARKS - 1);
        private static final int LOWER_BITS = 0x555;

        private final int[] rows = new int[PEOPLE * DAYS];

        int at(int p, int day) {
            int i = p * DAYS + day;
            return day >= 0 && day < DAYS && i >= 0 && i < rows.length ? rows[i] : 0;
        }

        void begin(int p, int look) {
            for (int day = 0; day < DAYS && inside(p, PEOPLE); day++) {
                set(rows, p * DAYS + day, look);
            }
        }

        void goOn(int p, int mark, int from, int by) {
            for (int day = Math.max(from, 0); day < DAYS && inside(p, PEOPLE); day++) {
                set(rows, p * DAYS + day, goneOn(at(p, day), mark, by));
            }
        }

        void copy(Looks other) {
            copyRow(other.rows, rows);
        }

        static int letter(int look, int mark) {
            return look >> 2 * (MARKS - 1 - mark) & 3;
        }

        static int goneOn(int look, int mark, int by) {
            int shift = 2 * (MARKS - 1 - mark);
            int letter = (look >> shift) + by & 3;
            return look & ~(3 << shift) | letter << shift;
        }

        /** In how many marks two LOOKS are unlike. */
        static int unlike(int look, int other) {
            int differ = look ^ other;
            return Integer.bitCount((differ | differ >> 1) & LOWER_BITS);
        }

        /** The marks in which two LOOKS are unlike, as bits. */
        static int unlikeMarks(int look, int other) {
            int bits = 0;
            for (int mark = 0; mark < MARKS; mark++) {
                bits |= letter(look, mark) != letter(other, mark) ? 1 << mark : 0;
            }
            return bits;
        }

        static int digits(int look, int marks) {
            int digits = 0;
            for (int mark = 0; mark < marks; mark++) {
                digits = 10 * digits + letter(look, mark) + 1;
            }
            return digits;
        }
    }

    /** What the ACTS change: the day NOW, the VISITS, the SHOCKS by what they did to LOOKS. */
    private static final class State {
        private Town town;
        private int day;
        private int shocks;
        private final int[] visits = new int[DAYS];
        private final Looks looks = new Looks();

        State(Town town) {
            begin(town);
        }

        void begin(Town told) {
            town = told;
            day = 0;
            shocks = 0;
            copyRow(told.visits, visits);
            looks.copy(told.looks);
        }

        void copy(State other) {
            town = other.town;
            day = other.day;
            shocks = other.shocks;
            copyRow(other.visits, visits);
            looks.copy(other.looks);
        }

        int visitor(int on) {
            return inside(on, DAYS) ? get(visits, on) : NOBODY;
        }

        void setVisitor(int on, int p) {
            set(visits, on, p);
        }

        int countVisits() {
            int count = 0;
            for (int on = 0; on < DAYS; on++) {
                count += visitor(on) >= 0 ? 1 : 0;
            }
            return count;
        }

        /** Whether a VISIT can come on a day: open, nobody's, not ahead of the day NOW. */
        boolean isFree(int on) {
            return on >= day && !town.isShut(on) && visitor(on) == NOBODY;
        }

        /** Whether there is a VISIT on a day that is NOW or behind. */
        boolean isAwaited(int on) {
            return on >= day && visitor(on) >= 0;
        }

        int latestVisit(int p, int until) {
            for (int on = Math.min(until, DAYS - 1); on >= 0; on--) {
                if (visitor(on) == p) {
                    return on;
                }
            }
            return NOT_ANY;
        }

        int beliefOn(int p, int on) {
            return beliefBy(p, latestVisit(p, on));
        }

        /** The BELIEF of one whose latest VISIT was on a day (NOT_ANY without one). */
        int beliefBy(int p, int visit) {
            int shown = visit < 0 ? get(town.told, p) : looks.at(p, Math.max(visit - town.late, 0));
            return get(town.kinds, p) == VAIN ? shown & ~Looks.MARK_0 : shown;
        }

        int papersOn(int p, int on) {
            int visit = latestVisit(p, on);
            return visit < 0 ? get(town.told, p) : looks.at(p, visit);
        }

        int mistakes(int p, int on) {
            return Looks.unlike(looks.at(p, on), beliefOn(p, on));
        }

        boolean knowsSelf(int p, int on) {
            return knowsBy(p, on, latestVisit(p, on));
        }

        boolean knowsBy(int p, int on, int visit) {
            return Looks.unlike(looks.at(p, on), beliefBy(p, visit)) <= town.within;
        }

        int knowing(int on) {
            int bits = 0;
            for (int p = 0; p < town.people(); p++) {
                bits |= knowsSelf(p, on) ? 1 << p : 0;
            }
            return bits;
        }

        int daysLost(int p) {
            int lost = 0;
            for (int on = 0; on < DAYS; on++) {
                lost += knowsSelf(p, on) ? 0 : 1;
            }
            return lost;
        }

        boolean passesFor(int p, int q, int on) {
            return p != q && Looks.unlike(looks.at(p, on), papersOn(q, on)) <= town.within;
        }

        boolean hasTwins(int on) {
            for (int p = 0; p < town.people(); p++) {
                for (int q = p + 1; q < town.people(); q++) {
                    if (looks.at(p, on) == looks.at(q, on)) {
                        return true;
                    }
                }
            }
            return false;
        }

        int wishesHeld() {
            int bits = 0;
            for (int w = 0; w < town.wishes(); w++) {
                bits |= knowsSelf(get(town.wishPerson, w), get(town.wishDay, w)) ? 1 << w : 0;
            }
            return bits;
        }

        int countHeld() {
            return Integer.bitCount(wishesHeld());
        }

        /** Lets a MONTH's DRAWS change LOOKS; the SEED that comes of it. */
        int drift(int seed) {
            int going = seed;
            for (int on = 0; on < DAYS; on++) {
                going = drawn(going);
                int p = rest(going, town.people());
                going = drawn(going);
                looks.goOn(p, rest(going, town.marks), on, 1);
            }
            return going;
        }

        private static int drawn(int seed) {
            return (75 * seed + 74) % SEEDS;
        }

        private static int rest(int draw, int by) {
            return by > 0 ? draw % by : 0;
        }
    }

    /** The latest ACTS, by which they can be undone. */
    private static final class Acts {
        private static final int KEPT = 16;
        private static final int CELLS = 4;
        private static final int BOOK = 0;
        private static final int CALL_OFF = 1;
        private static final int SHOCK = 2;
        private static final int DAYS_GO_BY = 3;

        private final int[] rows = new int[KEPT * CELLS];
        private int count;

        void forget() {
            count = 0;
        }

        void note(int sort, int a, int b, int c) {
            if (count >= KEPT) {
                System.arraycopy(rows, CELLS, rows, 0, rows.length - CELLS);
                count = KEPT - 1;
            }
            int at = count * CELLS;
            set(rows, at, sort);
            set(rows, at + 1, a);
            set(rows, at + 2, b);
            set(rows, at + 3, c);
            count++;
        }

        /** What came behind an ACT is undone ahead of it, so the day NOW is the day of the ACT. */
        void takeBack(State now) {
            count--;
            int at = count * CELLS;
            int a = get(rows, at + 1);
            int b = get(rows, at + 2);
            switch (get(rows, at)) {
                case BOOK:
                    now.setVisitor(a, NOBODY);
                    break;
                case CALL_OFF:
                    now.setVisitor(a, b);
                    break;
                case SHOCK:
                    now.looks.goOn(a, b, now.day, LETTERS - get(rows, at + 3));
                    now.shocks--;
                    break;
                default:
                    now.day -= a;
                    break;
            }
        }
    }

    /** FEWEST more VISITS by which all wishes hold, each as 10 times its day and its person. */
    private static final class Fewest {
        private static final int MOST = 3;

        private final int[] candidates = new int[PEOPLE * DAYS];
        private final int[] presentVisit = new int[WISHES];
        private final int[] chosen = new int[MOST];
        private int candidateCount;
        private int count;
        private int due;
        private int waiting;

        void search(State now) {
            for (int w = 0; w < now.town.wishes(); w++) {
                set(presentVisit, w, now.latestVisit(get(now.town.wishPerson, w), get(now.town.wishDay, w)));
            }
            int inReach = listCandidates(now) | now.wishesHeld();
            boolean hope = inReach == (1 << now.town.wishes()) - 1;
            for (int n = 0; n <= MOST && hope; n++) {
                count = n;
                if (completes(now, 0, 0)) {
                    return;
                }
            }
            count = NOT_ANY;
        }

        /** The wishes, as bits, that could hold by one candidate or another. */
        private int listCandidates(State now) {
            int all = 0;
            candidateCount = 0;
            for (int day = 0; day < DAYS; day++) {
                for (int p = 0; p < now.town.people(); p++) {
                    int helped = now.isFree(day) ? helpedBy(now, p, day) : 0;
                    if (helped != 0) {
                        set(candidates, candidateCount, 10 * day + p);
                        candidateCount++;
                    }
                    all |= helped;
                }
            }
            return all;
        }

        /**
         * The wishes, as bits, that could hold by this VISIT. Each of the FEWEST helps one: without
         * another one still fewer would be enough.
         */
        private int helpedBy(State now, int p, int day) {
            int bits = 0;
            for (int w = 0; w < now.town.wishes(); w++) {
                int wished = get(now.town.wishDay, w);
                if (get(now.town.wishPerson, w) == p && wished >= day
                        && get(presentVisit, w) < day && now.knowsBy(p, wished, day)) {
                    bits |= 1 << w;
                }
            }
            return bits;
        }

        /** Whether the first so many that are chosen can be made up, by candidates from a place on. */
        private boolean completes(State now, int depth, int from) {
            lookAtWishes(now, depth);
            int last = due;
            // each one who waits needs a VISIT of his own
            if (depth >= count || waiting == 0 || Integer.bitCount(waiting) > count - depth) {
                return depth == count && waiting == 0;
            }
            for (int i = from; i < candidateCount; i++) {
                // a wish is past help by VISITS on later days, and candidates stand by days
                if (get(candidates, i) / 10 > last) {
                    return false;
                }
                if (completesBy(now, depth, i)) {
                    return true;
                }
            }
            return false;
        }

        private boolean completesBy(State now, int depth, int i) {
            int candidate = get(candidates, i);
            if (depth >= MOST || depth > 0 && get(chosen, depth - 1) / 10 == candidate / 10) {
                return false;
            }
            set(chosen, depth, candidate);
            return completes(now, depth + 1, i + 1);
        }

        /** Who waits for wishes, as bits, with the first so many chosen, and the first day that is due. */
        private void lookAtWishes(State now, int depth) {
            due = DAYS;
            waiting = 0;
            for (int w = 0; w < now.town.wishes(); w++) {
                int p = get(now.town.wishPerson, w);
                int wished = get(now.town.wishDay, w);
                if (!now.knowsBy(p, wished, visitWith(w, p, wished, depth))) {
                    due = Math.min(due, wished);
                    waiting |= 1 << p;
                }
            }
        }

        private int visitWith(int w, int p, int wished, int depth) {
            int visit = get(presentVisit, w);
            for (int i = 0; i < depth; i++) {
                int day = get(chosen, i) / 10;
                if (get(chosen, i) % 10 == p && day <= wished) {
                    visit = Math.max(visit, day);
                }
            }
            return visit;
        }
    }

    /** RINGS in which people change the days of their VISITS. */
    private static final class Rings {
        private final int[] has = new int[PEOPLE];
        private final int[] gets = new int[PEOPLE];
        private final int[] pointsAt = new int[PEOPLE];

        void trade(State now) {
            for (int p = 0; p < PEOPLE; p++) {
                boolean wishes = p < now.town.people() && now.town.firstWish(p) >= 0;
                set(has, p, wishes ? onlyVisit(now, p) : NOT_ANY);
                set(gets, p, NOT_ANY);
            }
            // each round lets one ring go out at least
            for (int round = 0; round < PEOPLE; round++) {
                point(now);
                closeRing();
            }
        }

        private static int onlyVisit(State now, int p) {
            int only = NOT_ANY;
            for (int day = now.day; day < DAYS; day++) {
                if (now.visitor(day) == p) {
                    if (only >= 0) {
                        return NOT_ANY;
                    }
                    only = day;
                }
            }
            return only;
        }

        private boolean waits(int p) {
            return get(has, p) >= 0 && get(gets, p) < 0;
        }

        private void point(State now) {
            for (int p = 0; p < PEOPLE; p++) {
                if (waits(p)) {
                    set(pointsAt, p, liked(now.town.firstWish(p)));
                }
            }
        }

        /** Who of those who wait has the day nearest to a wish, of like ones the earlier. */
        private int liked(int wish) {
            int best = NOT_ANY;
            for (int q = 0; q < PEOPLE; q++) {
                if (waits(q) && (best < 0 || isNearer(get(has, q), get(has, best), wish))) {
                    best = q;
                }
            }
            return best;
        }

        private static boolean isNearer(int day, int other, int wish) {
            int near = Math.abs(day - wish);
            int far = Math.abs(other - wish);
            return near < far || near == far && day < other;
        }

        private void closeRing() {
            int start = NOT_ANY;
            for (int p = PEOPLE - 1; p >= 0; p--) {
                start = waits(p) ? p : start;
            }
            if (start < 0) {
                return;
            }
            // after as many steps as there are people one stands in a ring
            for (int i = 0; i < PEOPLE; i++) {
                start = get(pointsAt, start);
            }
            int p = start;
            for (int i = 0; i < PEOPLE && waits(p); i++) {
                set(gets, p, get(has, get(pointsAt, p)));
                p = get(pointsAt, p);
            }
        }
    }

    /** ASK: chances, all as so many of 100 to the power of five, so that they compare as they are. */
    private static final class Asking {
        private static final long SURE = 10_000_000_000L;

        private final long[] chances = new long[PEOPLE + 1];

        int bestToAsk(Town town, int p) {
            int asked = askedBy(town, p);
            int best = 0;
            long highest = -1;
            for (int bits = 1; bits <= asked; bits++) {
                if ((bits & ~asked) == 0 && Integer.bitCount(bits) % 2 == 1) {
                    long chance = chanceOfMost(town, p, bits);
                    boolean fewer = Integer.bitCount(bits) < Integer.bitCount(best);
                    if (chance > highest || chance == highest && fewer) {
                        best = bits;
                        highest = chance;
                    }
                }
            }
            return best;
        }

        private static int askedBy(Town town, int p) {
            int bits = 0;
            for (int q = 0; q < town.people(); q++) {
                bits |= town.asks(p, q) ? 1 << q : 0;
            }
            return bits;
        }

        /** How likely more than half of these tell the truth; 0 if they are nobody. */
        long chanceOfMost(Town town, int p, int bits) {
            for (int n = 0; n < chances.length; n++) {
                chances[n] = n == 0 ? SURE : 0;
            }
            for (int q = 0; q < town.people(); q++) {
                if ((bits >> q & 1) == 1) {
                    tellBy(town.oddsOf(p, q));
                }
            }
            long most = 0;
            for (int n = 1; n < chances.length; n++) {
                most += 2 * n > Integer.bitCount(bits) ? chances[n] : 0;
            }
            return most;
        }

        /** One more who tells the truth by these odds: chances[n] is that n tell it. */
        private void tellBy(int odds) {
            for (int n = chances.length - 1; n > 0; n--) {
                chances[n] = (chances[n] * (100 - odds) + chances[n - 1] * odds) / 100;
            }
            if (chances.length > 0) {
                chances[0] = chances[0] * (100 - odds) / 100;
            }
        }

        static long chanceOfAll(Town town, int p) {
            long chance = SURE;
            for (int q = 0; q < town.people(); q++) {
                if (town.asks(p, q)) {
                    chance = chance * town.oddsOf(p, q) / 100;
                }
            }
            return chance;
        }

        static long lowestTerm(long chance, boolean lower) {
            long common = chance;
            long rest = SURE;
            for (int i = 0; i < 100 && rest != 0; i++) {
                long next = common % rest;
                common = rest;
                rest = next;
            }
            return common > 0 ? (lower ? SURE : chance) / common : 0;
        }
    }

    /** Marks to look at, and the UNKNOWN one. */
    private static final class Riddle {
        private final int[] differences = new int[PEOPLE * PEOPLE];
        private final int[] tally = new int[PEOPLE * (MARKS + 1)];
        private int pairs;
        private int passBy;
        private int passLeft;

        /** GUARD, as bits; NOT_ANY if all marks aren't enough. */
        int marksToGuard(State now, int day) {
            listDifferences(now, day);
            int best = NOT_ANY;
            int fewest = MARKS + 1;
            for (int bits = 0; bits < 1 << now.town.marks; bits++) {
                if (Integer.bitCount(bits) < fewest && tellsAllApart(bits)) {
                    best = bits;
                    fewest = Integer.bitCount(bits);
                }
            }
            return best;
        }

        private void listDifferences(State now, int day) {
            pairs = 0;
            for (int q = 0; q < now.town.people(); q++) {
                int papers = now.papersOn(q, day);
                for (int p = 0; p < now.town.people(); p++) {
                    if (p != q) {
                        set(differences, pairs, Looks.unlikeMarks(now.looks.at(p, day), papers));
                        pairs++;
                    }
                }
            }
        }

        private boolean tellsAllApart(int bits) {
            for (int i = 0; i < pairs; i++) {
                if ((get(differences, i) & bits) == 0) {
                    return false;
                }
            }
            return true;
        }

        private static int countLooks(Town town) {
            return 1 << 2 * town.marks;
        }

        /** LOOKS by letters, from 0 on. */
        private static int nthLook(Town town, int n) {
            return n << 2 * (MARKS - town.marks);
        }

        private static int alike(Town town, int look, int p) {
            return town.marks - Looks.unlike(look, get(town.told, p));
        }

        private static boolean fits(Town town, int look) {
            for (int p = 0; p < town.people(); p++) {
                if (town.isStaredAt(p) && alike(town, look, p) != get(town.stares, p)) {
                    return false;
                }
            }
            return true;
        }

        static int countFitting(Town town) {
            int count = 0;
            for (int n = 0; n < countLooks(town); n++) {
                count += fits(town, nthLook(town, n)) ? 1 : 0;
            }
            return count;
        }

        /** The i-th LOOK of UNKNOWN; NOT_ANY if there is none such. */
        static int fittingAt(Town town, int i) {
            int ahead = 0;
            for (int n = 0; n < countLooks(town); n++) {
                if (fits(town, nthLook(town, n))) {
                    if (ahead == i) {
                        return nthLook(town, n);
                    }
                    ahead++;
                }
            }
            return NOT_ANY;
        }

        void choosePass(Town town) {
            boolean any = tallyFitting(town);
            passBy = NOT_ANY;
            passLeft = NOT_ANY;
            for (int p = 0; p < town.people() && any; p++) {
                int left = mostLeft(p);
                if (passBy < 0 || left < passLeft) {
                    passBy = p;
                    passLeft = left;
                }
            }
        }

        /** Counts UNKNOWN by each person and by the marks alike; whether there are any. */
        private boolean tallyFitting(Town town) {
            boolean any = false;
            fill(tally, 0);
            for (int n = 0; n < countLooks(town); n++) {
                int look = nthLook(town, n);
                if (fits(town, look)) {
                    any = true;
                    for (int p = 0; p < town.people(); p++) {
                        int at = p * (MARKS + 1) + alike(town, look, p);
                        set(tally, at, get(tally, at) + 1);
                    }
                }
            }
            return any;
        }

        private int mostLeft(int p) {
            int most = 0;
            for (int alike = 0; alike <= MARKS; alike++) {
                most = Math.max(most, get(tally, p * (MARKS + 1) + alike));
            }
            return most;
        }
    }
}
