/** Promises 1 to 5: the tape, the text of a town, its faults and their places. */
public final class TownTextTest {
    private static final String HEAD = "town marks 3 within 1 late 1 shut 1";
    private static final String TWO = HEAD + ";person p plain abc;person q vain abd";

    private TownTextTest() {
    }

    public static void main(String[] args) {
        newObject();
        tape();
        fullTape();
        firstBytes();
        townNumbers();
        good();
        names();
        sixMarks();
        tokens();
        form();
        untold();
        toldAgain();
        bounds();
        many();
        lacks();
        look();
        shut();
        firstFromTheLeft();
        faultAndWhere();
        townAnew();
        Check.end("TownTextTest");
    }

    private static void fault(String text, int number, int place) {
        MirrorHour x = new MirrorHour();
        Check.refused(x, "town of " + text, x.town(Check.feed(x, text)), 4);
        Check.due("fault() of " + text, x.fault(), number);
        Check.due("where() of " + text, x.where(), place);
        Check.due("size(4) of " + text, x.size(4), 0);
    }

    /** A fault at the place of the sign |, which is left out of the text. */
    private static void faultAt(String text, int number) {
        int place = text.indexOf('|');
        fault(text.substring(0, place) + text.substring(place + 1), number, place);
    }

    private static void told(String text, int people) {
        MirrorHour x = new MirrorHour();
        Check.due("town of " + text, x.town(Check.feed(x, text)), people);
        Check.due("trouble() of " + text, x.trouble(), 0);
        Check.due("fault() of " + text, x.fault(), 0);
        Check.due("where() of " + text, x.where(), -1);
    }

    private static void newObject() {
        MirrorHour x = new MirrorHour();
        Check.due("NONE", MirrorHour.NONE, -1);
        Check.due("trouble() of a new one", x.trouble(), 0);
        Check.due("fault() of a new one", x.fault(), 0);
        Check.due("where() of a new one", x.where(), -1);
        for (int what = 0; what <= 14; what++) {
            Check.due("size(" + what + ") of a new one", x.size(what), 0);
        }
        Check.refused(x, "look", x.look(0, 0, 0), 1);
        Check.refused(x, "look of no town, day", x.look(0, 77, 0), 1);
        Check.refused(x, "hall", x.hall(0), 1);
        Check.refused(x, "hall of no town, day", x.hall(30), 1);
        Check.refused(x, "unknownAt", x.unknownAt(0), 1);
        Check.refused(x, "fewestAt", x.fewestAt(0), 1);
        Check.refused(x, "allTell", x.allTell(0, true), 1);
        Check.refused(x, "month", x.month(99999), 1);
        Check.refused(x, "lost", x.lost(0, -1, 0), 1);
        Check.refused(x, "swapped", x.swapped(0, 77), 1);
        Check.refused(x, "image", x.image(), 1);
        Check.refused(x, "back", x.back(0), 1);
        Check.refused(x, "callOff", x.callOff(44), 1);
        Check.refused(x, "shock", x.shock(0, 0, 9), 1);
        Check.refused(x, "days", x.days(0), 1);
        Check.refused(x, "undo", x.undo(), 6);
        Check.ledThrows(x, 0);
    }

    private static void tape() {
        MirrorHour x = new MirrorHour();
        for (int i = 1; i <= 40; i++) {
            Check.due("feed " + i, x.feed(0x20202020, 0x20202020, 0x20202020, 0x20202020, 0x20202020), 20 * i);
        }
        Check.due("feed 41", x.feed(1, 2, 3, 4, 5), -1);
        Check.due("trouble() isn't told by feed", x.trouble(), 0);
        Check.due("size(14)", x.size(14), 800);
        Check.refused(x, "town(801)", x.town(801), 2);
        Check.due("size(14) stays", x.size(14), 800);
        Check.refused(x, "town(800)", x.town(800), 4);
        Check.due("where() of blanks", x.where(), 800);
        Check.due("size(14) is empty", x.size(14), 0);
        // each number's highest byte first: a ! ahead of b, c, d
        MirrorHour y = new MirrorHour();
        y.feed(0x20202120, 0x21212121, 0x21212121, 0x21212121, 0x21212121);
        y.town(20);
        Check.due("where() of the first !", y.where(), 2);
        MirrorHour z = new MirrorHour();
        z.feed(0xff202020, 0, 0, 0, 0);
        z.town(20);
        Check.due("where() of byte 255", z.where(), 0);
        Check.due("fault() of byte 255", z.fault(), 1);
    }

    private static void fullTape() {
        MirrorHour x = new MirrorHour();
        // the last LETTER stands in the last byte
        StringBuilder text = new StringBuilder(HEAD + ";person p plain");
        while (text.length() < 797) {
            text.append(' ');
        }
        Check.due("all 800 bytes", Check.feed(x, text + "abc"), 800);
        Check.due("one more feed", x.feed(0x20202020, 0, 0, 0, 0), -1);
        Check.due("none came", x.size(14), 800);
        Check.due("town(800)", x.town(800), 1);
        Check.due("the last letter", x.look(0, 0, 2), 2);
        Check.due("a feed to the tape that is empty again", x.feed(0, 0, 0, 0, 0), 20);
        Check.due("byte 0 begins no token", x.town(1), -1);
        Check.due("fault() of byte 0", x.fault(), 1);
        Check.due("where() of byte 0", x.where(), 0);
        Check.feed(x, text + "abcd");
        Check.due("780 bytes and twenty more have room", x.size(14), 800);
        Check.refused(x, "a look of no more than the last three bytes", x.town(799), 4);
        Check.due("fault() of a look that is cut off", x.fault(), 7);
        Check.due("where() of it", x.where(), 797);
    }

    /** What stands behind the first n bytes is gone, and means nothing. */
    private static void firstBytes() {
        MirrorHour x = new MirrorHour();
        int n = Check.feed(x, HEAD + ";person p plain abcd!!");
        Check.due("a look that n cuts", x.town(n - 3), 1);
        Check.due("its last letter", x.look(0, 0, 2), 2);
        Check.due("the tape is empty", x.size(14), 0);
        n = Check.feed(x, HEAD + ";person p plain abc;person abcdefghijk");
        Check.refused(x, "a name that n cuts to eight letters", x.town(n - 3), 4);
        Check.due("the end is at fault then", x.where(), n - 3);
        n = Check.feed(x, "town marks 3000");
        Check.refused(x, "a whole that n cuts to one digit", x.town(n - 3), 4);
        Check.due("the end is at fault then", x.where(), n - 3);
        Check.due("fault() of it", x.fault(), 1);
    }

    private static void names() {
        MirrorHour x = Check.town(HEAD + ";person a plain aaa;person aa plain aaa;person aaa plain aaa"
            + ";person zzzzzzzz plain aaa;person zzzzzzzy plain aaa"
            + ";visit zzzzzzzy day 4;visit aaa day 2;visit aa day 3;visit zzzzzzzz day 5;visit a day 0");
        int[] visitors = {0, -3, 2, 1, 4, 3};
        for (int day = 0; day < visitors.length; day++) {
            Check.due("hall(" + day + ") by names that begin alike", x.hall(day), visitors[day]);
        }
        for (char c = 'a'; c <= 'z'; c++) {
            told(HEAD + ";person " + c + " plain abc;person " + c + c + " plain abc;person " + c + c + c + " plain abc", 3);
        }
        told(HEAD + ";person mark plain abc;person within aged abc;person d vain abc;change mark day 1 mark 1 by 1", 3);
        told(HEAD + ";person azzzzzzz plain abc;person bzzzzzzz plain abc", 2);
        faultAt(HEAD + ";person zzzzzzzz plain abc;person |zzzzzzzz", 3);
        faultAt(HEAD + ";person p plain abc;visit |q day 2;person q plain abc", 2);
        faultAt(HEAD + ";person p plain abc;asks p |q odds 2;person q plain abc", 2);
    }

    private static void sixMarks() {
        String six = "town marks 6 within 2 late 3 shut 0;person p plain abcdab";
        told(six + ";change p day 29 mark 5 by 3", 1);
        faultAt(six + ";change p day 29 mark |6 by 3", 4);
        told(six + ";stare p 6", 1);
        faultAt(six + ";stare p |7", 4);
        faultAt("town marks 6 within 2 late 3 shut 0;person p plain |abcda", 7);
        faultAt("town marks 6 within 2 late 3 shut 0;person p plain |abcdabc", 7);
        faultAt("town marks 6 within 2 late 3 shut 0;person p plain |abcdaz", 7);
        told(six + ";visit p day 29", 1);
        faultAt(six + ";visit p day |28", 8);
        faultAt(six + ";visit p day |0", 8);
        told(six + ";wish p day 28;change p day 28 mark 0 by 1", 1);
    }

    /** Blanks part TOKENS, but needn't stand where others part; no other byte does. */
    private static void tokens() {
        told("town marks3within1late1shut1;person p plain abc;stare p3;visit p day000", 1);
        faultAt("|townmarks 3", 1);
        faultAt("town marks 3|\n", 1);
        faultAt("town marks |\t3", 1);
        faultAt("town marks |-1", 1);
        faultAt("town marks 3 within |:", 1);
        faultAt("town marks 3 within |/", 1);
        faultAt("town marks 3 |`", 1);
        faultAt("town marks 3 |{", 1);
        faultAt("|@", 1);
        faultAt("|[", 1);
        faultAt("town marks 3 within 1 late 1 shut |0001", 1);
        faultAt(HEAD + ";person p plain abc|:", 1);
        faultAt(HEAD + ";person p plain abc|\u00a0", 1);
    }

    private static void townNumbers() {
        MirrorHour x = new MirrorHour();
        Check.refused(x, "town(1) of no bytes", x.town(1), 2);
        Check.refused(x, "town(-1)", x.town(-1), 2);
        Check.refused(x, "town(0)", x.town(0), 4);
        Check.due("fault() of no bytes", x.fault(), 1);
        Check.due("where() of no bytes", x.where(), 0);
        int n = Check.feed(x, TWO);
        Check.refused(x, "town(-1)", x.town(-1), 2);
        Check.refused(x, "town(n)", x.town(Integer.MIN_VALUE), 2);
        Check.refused(x, "town(n)", x.town(Integer.MAX_VALUE), 2);
        Check.due("fault() is of the latest not refused by 2", x.fault(), 1);
        Check.due("where() after one refused by 2", x.where(), -1);
        Check.due("town of the first bytes", x.town(n - " person q vain abd".length()), 1);
    }

    private static void good() {
        told(TWO, 2);
        told("  town   marks 3within 1late 1shut 1  ;  person p plain abc  ", 1);
        told("town marks 003 within 00 late 0 shut 6;person plain plain aaa", 1);
        told("town marks 6 within 2 late 3 shut 0;person marks aged abcdda;person day bearded aaaaaa", 2);
        told(HEAD + ";person abcdefgh plain abc", 1);
        told(TWO + ";wish p day 0;wish p day 29;wish q day 0", 2);
        told(TWO + ";asks p q odds 0;asks q p odds 100;stare p 0;stare q 3", 2);
        told(TWO + ";visit p day 0;visit p day 2;visit q day 28", 2);
        told(TWO + ";change p day 0 mark 0 by 1;change p day 0 mark 0 by 1;change q day 29 mark 2 by 3", 2);
        told(HEAD + ";person p plain abc;visit p day 2;person q vain abd;visit q day 3", 2);
    }

    private static void form() {
        faultAt("|;" + HEAD, 1);
        faultAt("|7", 1);
        faultAt("|towns marks 3", 1);
        faultAt("|xown marks 3", 1);
        faultAt("town |narks 3", 1);
        faultAt(HEAD + ";person p |blain", 1);
        faultAt("town |3", 1);
        faultAt("town marks |x", 1);
        faultAt("town marks 3 |", 1);
        fault("town marks 3    ", 1, 16);
        faultAt("town marks |1000", 1);
        faultAt("town marks |0003", 1);
        faultAt("town marks 3 |Within", 1);
        faultAt("town marks 3 |withinwit 1", 1);
        faultAt(HEAD + "|,", 1);
        faultAt(HEAD + " |2", 1);
        faultAt(HEAD + " |person p plain abc", 1);
        faultAt(HEAD + ";|", 1);
        faultAt(HEAD + ";|;person p plain abc", 1);
        faultAt(TWO + ";|", 1);
        faultAt(HEAD + ";person |7", 1);
        faultAt(HEAD + ";person |town", 1);
        faultAt(HEAD + ";person |person", 1);
        faultAt(HEAD + ";person |change", 1);
        faultAt(HEAD + ";person |visit", 1);
        faultAt(HEAD + ";person |wish", 1);
        faultAt(HEAD + ";person |asks", 1);
        faultAt(HEAD + ";person |stare", 1);
        faultAt(HEAD + ";person |abcdefghi plain abc", 1);
        faultAt(HEAD + ";person p |shy", 1);
        faultAt(HEAD + ";person p |3", 1);
        faultAt(HEAD + ";person p plain |5", 1);
        faultAt(HEAD + ";person p plain |;", 1);
        faultAt(HEAD + ";person p plain |abcdabcda", 1);
        faultAt(TWO + ";visit |visit day 3", 1);
        faultAt(TWO + ";visit p |3", 1);
        faultAt(TWO + ";visit p day |x", 1);
        faultAt(TWO + ";change p day 1 mark 1 |be 1", 1);
        faultAt(TWO + ";asks p |odds 1", 2);
        faultAt(TWO + ";asks p |5", 1);
        faultAt(TWO + ";asks p |wish", 1);
        faultAt(TWO + ";asks p q |10", 1);
        faultAt(TWO + ";stare p |q", 1);
        faultAt(TWO + ";stare p 1 |1", 1);
        faultAt(TWO + ";stare p |", 1);
    }

    private static void untold() {
        faultAt(HEAD + ";visit |p day 3", 2);
        faultAt(TWO + ";change |r", 2);
        faultAt(TWO + ";visit |r", 2);
        faultAt(TWO + ";wish |r", 2);
        faultAt(TWO + ";asks |r", 2);
        faultAt(TWO + ";asks p |r", 2);
        faultAt(TWO + ";stare |r", 2);
        faultAt(TWO + ";stare |pp", 2);
        faultAt(TWO + ";stare |plain", 2);
    }

    private static void toldAgain() {
        faultAt(TWO + ";|town", 3);
        faultAt(TWO + ";person |p", 3);
        faultAt(TWO + ";visit p day 2;visit q day |2", 3);
        faultAt(TWO + ";visit p day 2;visit p day |02", 3);
        faultAt(TWO + ";wish p day 5;wish q day 5;wish p day |5", 3);
        faultAt(TWO + ";asks p |p", 3);
        faultAt(TWO + ";asks p q odds 1;asks q p odds 2;asks p |q", 3);
        faultAt(TWO + ";stare p 1;stare q 1;stare |p", 3);
    }

    private static void bounds() {
        faultAt("town marks |2", 4);
        faultAt("town marks |7", 4);
        faultAt("town marks 3 within |3", 4);
        faultAt("town marks 3 within 2 late |4", 4);
        faultAt("town marks 3 within 2 late 3 shut |7", 4);
        faultAt(TWO + ";change p day |30", 4);
        faultAt(TWO + ";change p day 0 mark |3", 4);
        faultAt(TWO + ";change p day 0 mark 0 by |0", 4);
        faultAt(TWO + ";change p day 0 mark 0 by |4", 4);
        faultAt(TWO + ";visit p day |30", 4);
        faultAt(TWO + ";visit p day |999", 4);
        faultAt(TWO + ";wish p day |30", 4);
        faultAt(TWO + ";asks p q odds |101", 4);
        faultAt(TWO + ";stare p |4", 4);
    }

    private static void many() {
        StringBuilder five = new StringBuilder(HEAD);
        for (char c = 'a'; c < 'f'; c++) {
            five.append(";person ").append(c).append(" plain abc");
        }
        told(five.toString(), 5);
        faultAt(five + ";|person f plain abc", 5);
        faultAt(five + ";|person a plain abc", 5);
        faultAt(five + ";|person 7", 5);
        faultAt(five + ";|person", 5);
        many(TWO, ";change p day 1 mark 1 by 1", 10);
        StringBuilder visits = new StringBuilder(TWO);
        for (int day = 2; day < 8; day++) {
            visits.append(";visit p day ").append(day);
        }
        for (int day = 9; day < 13; day++) {
            visits.append(";visit p day ").append(day);
        }
        told(visits.toString(), 2);
        faultAt(visits + ";|visit p day 13", 5);
        faultAt(visits + ";|visit r day 1", 5);
        StringBuilder wishes = new StringBuilder(TWO);
        for (int day = 0; day < 5; day++) {
            wishes.append(";wish p day ").append(day);
        }
        told(wishes.toString(), 2);
        faultAt(wishes + ";|wish p day 4", 5);
        StringBuilder asks = new StringBuilder(five);
        for (char c = 'b'; c < 'f'; c++) {
            asks.append(";asks a ").append(c).append(" odds 50;asks ").append(c).append(" a odds 50");
        }
        told(asks.toString(), 5);
        faultAt(asks + ";|asks b c odds 50", 5);
        StringBuilder stares = new StringBuilder(five);
        for (char c = 'a'; c < 'f'; c++) {
            stares.append(";stare ").append(c).append(" 0");
        }
        told(stares.toString(), 5);
        faultAt(stares + ";|stare a 0", 5);
    }

    private static void many(String head, String line, int room) {
        StringBuilder text = new StringBuilder(head);
        for (int i = 0; i < room; i++) {
            text.append(line);
        }
        told(text.toString(), 2);
        faultAt(text + ";|" + line.substring(1), 5);
    }

    private static void lacks() {
        faultAt("|person p", 6);
        faultAt(" |change", 6);
        faultAt("|visit p day 99", 6);
        faultAt("|wish", 6);
        faultAt("|asks", 6);
        faultAt("|stare", 6);
        faultAt(HEAD + "|", 6);
        fault(HEAD + "   ", 6, HEAD.length() + 3);
    }

    private static void look() {
        faultAt(HEAD + ";person p plain |abe", 7);
        faultAt(HEAD + ";person p plain |ab", 7);
        faultAt(HEAD + ";person p plain |abcd", 7);
        faultAt(HEAD + ";person p plain |town", 7);
        faultAt(HEAD + ";person p plain |z", 7);
    }

    private static void shut() {
        faultAt(TWO + ";visit p day |1", 8);
        faultAt(TWO + ";visit p day |8", 8);
    }

    private static void firstFromTheLeft() {
        faultAt(TWO + ";visit |r day 99;stare", 2);
        faultAt(TWO + ";visit p day |8 !", 8);
        faultAt(TWO + ";person |p !", 3);
        faultAt(HEAD + ";person p |shy !", 1);
        faultAt("town marks |9 within 9", 4);
    }

    private static void faultAndWhere() {
        MirrorHour x = new MirrorHour();
        x.town(Check.feed(x, TWO + ";stare r"));
        Check.due("where()", x.where(), TWO.length() + 7);
        Check.due("where() once more", x.where(), TWO.length() + 7);
        Check.due("trouble()", x.trouble(), 4);
        Check.refused(x, "hall(0)", x.hall(0), 1);
        Check.due("where() after another call", x.where(), -1);
        Check.due("fault() after another call", x.fault(), 2);
        Check.due("town", x.town(Check.feed(x, TWO)), 2);
        Check.due("fault() of a town", x.fault(), 0);
        x.town(Check.feed(x, "person"));
        Check.due("fault()", x.fault(), 6);
        Check.due("the town stays", x.size(4), 2);
        Check.due("where()", x.where(), 0);
        Check.due("feed tells no number", x.feed(0, 0, 0, 0, 0), 20);
        Check.due("where() after feed", x.where(), 0);
        x.size(77);
        Check.ledThrows(x, 5);
        Check.due("where() after size, led", x.where(), 0);
    }

    private static void townAnew() {
        MirrorHour x = Check.town(TWO + ";visit p day 5");
        x.shock(0, 0, 1);
        x.days(4);
        x.book(1, 9);
        x.image();
        x.town(Check.feed(x, "town"));
        Check.due("the day stays", x.size(10), 4);
        Check.due("the visits stay", x.size(6), 2);
        Check.due("the shocks stay", x.size(11), 1);
        Check.due("the acts stay", x.size(12), 3);
        Check.due("the images stay", x.size(13), 1);
        Check.due("town", x.town(Check.feed(x, HEAD + ";person z plain ddd;visit z day 4")), 1);
        Check.due("people", x.size(4), 1);
        Check.due("day 0", x.size(10), 0);
        Check.due("visits as told", x.size(6), 1);
        Check.due("no visit of the old town", x.hall(5), -2);
        Check.due("no shocks", x.size(11), 0);
        Check.due("look", x.look(0, 0, 0), 3);
        Check.due("no acts", x.size(12), 0);
        Check.due("no images", x.size(13), 0);
        Check.refused(x, "undo", x.undo(), 6);
        Check.refused(x, "back", x.back(0), 1);
    }
}
