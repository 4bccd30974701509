/** Promises 40 to 49: acts, undoing, images, what is told. */
public final class ActsTest {
    private static final String TOWN = "town marks 3 within 0 late 0 shut 6;person p plain abc;person q plain bbc"
        + ";visit p day 4;visit q day 9;wish p day 4;asks p q odds 5;asks q p odds 5;stare p 1;change q day 8 mark 0 by 1";

    private ActsTest() {
    }

    public static void main(String[] args) {
        book();
        dayNow();
        callOff();
        shock();
        days();
        undo();
        undoOfMany();
        sixteen();
        sixteenIsAllThatIsKept();
        images();
        imagesOfOneTown();
        led();
        sizes();
        Check.end("ActsTest");
    }

    private static void book() {
        MirrorHour x = Check.town(TOWN);
        Check.due("book(1, 5)", x.book(1, 5), true);
        Check.due("trouble()", x.trouble(), 0);
        Check.due("hall(5)", x.hall(5), 1);
        Check.refused(x, "book: somebody's", x.book(0, 5), 5);
        Check.refused(x, "book: his own", x.book(1, 5), 5);
        Check.refused(x, "book: shut", x.book(0, 13), 5);
        Check.refused(x, "book(2, 77)", x.book(2, 77), 1);
        Check.refused(x, "book(-1, 7)", x.book(-1, 7), 1);
        Check.refused(x, "book(0, 30)", x.book(0, 30), 2);
        Check.refused(x, "book(0, -1)", x.book(0, -1), 2);
        Check.due("book on the first day", x.book(0, 0), true);
        x.undo();
        x.days(7);
        Check.refused(x, "book: ahead of NOW", x.book(0, 3), 5);
        Check.due("book on the day NOW", x.book(0, 7), true);
        Check.due("book on the last day", x.book(0, 29), true);
        Check.due("size(6)", x.size(6), 5);
        int more = 0;
        for (int day = 0; day < 30; day++) {
            more += x.book(1, day) ? 1 : 0;
        }
        // 7 .. 29 are 23 days: 7, 9, 29 are somebody's, 13, 20, 27 are shut
        Check.due("books all days that are left", more, 23 - 3 - 3);
    }

    private static void dayNow() {
        MirrorHour x = Check.town(TOWN);
        x.days(3);
        Check.refused(x, "book on the day ahead of NOW", x.book(0, 2), 5);
        Check.due("book on the day NOW", x.book(0, 3), true);
        x.days(1);
        Check.refused(x, "callOff on the day ahead of NOW", x.callOff(3), 5);
        Check.due("callOff on the day NOW", x.callOff(4), true);
        Check.due("book it again", x.book(1, 4), true);
        x.shock(1, 0, 1);
        Check.due("look on the day ahead of a shock", x.look(1, 3, 0), 1);
        Check.due("look on the day of a shock", x.look(1, 4, 0), 2);
        x.days(25);
        Check.due("size(10) is the last day", x.size(10), 29);
        Check.due("book on the last day", x.book(0, 29), true);
        Check.refused(x, "book on the day ahead of the last", x.book(0, 28), 5);
        Check.due("shock on the last day", x.shock(0, 0, 1), true);
        Check.due("look on the day ahead of it", x.look(0, 28, 0), 0);
        Check.due("look on the last day", x.look(0, 29, 0), 1);
        Check.due("callOff on the last day", x.callOff(29), true);
    }

    private static void callOff() {
        MirrorHour x = Check.town(TOWN);
        Check.refused(x, "callOff(5): nobody's", x.callOff(5), 5);
        Check.refused(x, "callOff(6): shut", x.callOff(6), 5);
        Check.refused(x, "callOff(30)", x.callOff(30), 2);
        Check.refused(x, "callOff(-1)", x.callOff(-1), 2);
        Check.due("callOff(4)", x.callOff(4), true);
        Check.due("trouble()", x.trouble(), 0);
        Check.due("hall(4)", x.hall(4), -2);
        Check.due("latest(0, 29)", x.latest(0, 29), -2);
        Check.refused(x, "callOff(4) again", x.callOff(4), 5);
        x.days(9);
        Check.due("callOff on the day NOW", x.callOff(9), true);
        x.undo();
        x.days(1);
        Check.refused(x, "callOff ahead of NOW", x.callOff(9), 5);
    }

    private static void shock() {
        MirrorHour x = Check.town(TOWN);
        Check.refused(x, "shock(2, 0, 9)", x.shock(2, 0, 9), 1);
        Check.refused(x, "shock(-1, 0, 1)", x.shock(-1, 0, 1), 1);
        Check.refused(x, "shock(0, 3, 1)", x.shock(0, 3, 1), 1);
        Check.refused(x, "shock(0, -1, 1)", x.shock(0, -1, 1), 1);
        Check.refused(x, "shock(0, 0, 0)", x.shock(0, 0, 0), 2);
        Check.refused(x, "shock(0, 0, 4)", x.shock(0, 0, 4), 2);
        Check.refused(x, "shock(0, 0, min)", x.shock(0, 0, Integer.MIN_VALUE), 2);
        x.days(3);
        Check.due("shock(0, 2, 3)", x.shock(0, 2, 3), true);
        Check.due("trouble()", x.trouble(), 0);
        Check.due("look(0, 2, 2)", x.look(0, 2, 2), 2);
        Check.due("look(0, 3, 2)", x.look(0, 3, 2), 1);
        Check.due("look(0, 29, 2)", x.look(0, 29, 2), 1);
        Check.due("look(1, 3, 2) of another one", x.look(1, 3, 2), 2);
        Check.due("knows(3)", x.knows(3), 2);
        Check.due("knows(4): by his visit", x.knows(4), 3);
        for (int i = 1; i < 12; i++) {
            Check.due("shock " + i, x.shock(1, 0, 1), true);
        }
        Check.due("size(11)", x.size(11), 12);
        Check.refused(x, "a thirteenth", x.shock(0, 0, 1), 3);
        Check.refused(x, "a number is told ahead of no room", x.shock(0, 0, 4), 2);
        x.undo();
        Check.due("size(11) after undo", x.size(11), 11);
        Check.due("there is room again", x.shock(0, 0, 1), true);
    }

    private static void days() {
        MirrorHour x = Check.town(TOWN);
        Check.refused(x, "days(0)", x.days(0), 2);
        Check.refused(x, "days(-3)", x.days(-3), 2);
        Check.refused(x, "days(30)", x.days(30), 2);
        Check.refused(x, "days(max)", x.days(Integer.MAX_VALUE), 2);
        Check.due("days(29)", x.days(29), 29);
        Check.due("trouble()", x.trouble(), 0);
        Check.refused(x, "days(1) above 29", x.days(1), 3);
        x.undo();
        Check.due("days(5)", x.days(5), 5);
        Check.due("days(4)", x.days(4), 9);
        Check.refused(x, "days(21) above 29", x.days(21), 3);
        Check.due("days(20)", x.days(20), 29);
    }

    private static void undo() {
        MirrorHour x = Check.town(TOWN);
        Check.refused(x, "undo of nothing", x.undo(), 6);
        x.book(0, 5);
        x.days(2);
        x.shock(1, 1, 3);
        x.days(5);
        x.callOff(9);
        x.shock(1, 1, 2);
        Check.due("size(12)", x.size(12), 6);
        Check.due("look(1, 29, 1)", x.look(1, 29, 1), 2);
        Check.due("undo the shock", x.undo(), true);
        Check.due("look(1, 29, 1)", x.look(1, 29, 1), 0);
        Check.due("undo the calling off", x.undo(), true);
        Check.due("hall(9)", x.hall(9), 1);
        Check.due("undo the days", x.undo(), true);
        Check.due("size(10)", x.size(10), 2);
        Check.due("undo the first shock", x.undo(), true);
        Check.due("look(1, 2, 1)", x.look(1, 2, 1), 1);
        Check.due("size(11)", x.size(11), 0);
        Check.due("undo the first days", x.undo(), true);
        Check.due("size(10)", x.size(10), 0);
        Check.due("undo the visit", x.undo(), true);
        Check.due("hall(5)", x.hall(5), -2);
        Check.due("trouble()", x.trouble(), 0);
        Check.refused(x, "undo of nothing more", x.undo(), 6);
        x.book(0, 30);
        x.callOff(5);
        Check.due("refused ones can't be undone", x.size(12), 0);
    }

    private static void sixteen() {
        MirrorHour x = Check.town(TOWN);
        for (int i = 0; i < 20; i++) {
            x.days(1);
        }
        Check.due("size(12)", x.size(12), 16);
        for (int i = 0; i < 16; i++) {
            Check.due("undo " + i, x.undo(), true);
        }
        Check.due("the first four stay", x.size(10), 4);
        Check.refused(x, "undo of a seventeenth", x.undo(), 6);
        MirrorHour y = Check.town(TOWN);
        int[] days = {0, 1, 2, 3, 5, 7, 8, 10, 11, 12, 14, 15, 16, 17, 18, 19, 21, 22, 23};
        for (int i = 0; i < days.length; i++) {
            y.book(0, days[i]);
            Check.due("size(12) after " + (i + 1), y.size(12), Math.min(i + 1, 16));
        }
        for (int i = days.length - 1; i >= 3; i--) {
            Check.due("undo of day " + days[i], y.undo(), true);
            Check.due("hall(" + days[i] + ")", y.hall(days[i]), -2);
            Check.due("hall(" + days[i - 1] + ")", y.hall(days[i - 1]), 0);
        }
        Check.refused(y, "undo of the third", y.undo(), 6);
        Check.due("size(6)", y.size(6), 5);
    }

    /** Each kind of act stands ahead of each other one. */
    private static void undoOfMany() {
        MirrorHour x = Check.town(TOWN);
        for (int first = 0; first < 4; first++) {
            for (int second = 0; second < 4; second++) {
                act(x, first, 10);
                act(x, second, 11);
                x.undo();
                x.undo();
                String of = " after undoing " + first + ", " + second;
                Check.due("size(10)" + of, x.size(10), 0);
                Check.due("size(11)" + of, x.size(11), 0);
                Check.due("size(12)" + of, x.size(12), 0);
                Check.due("hall(10)" + of, x.hall(10), -2);
                Check.due("hall(11)" + of, x.hall(11), -2);
                Check.due("hall(4)" + of, x.hall(4), 0);
                Check.due("hall(9)" + of, x.hall(9), 1);
                Check.due("look(0, 29, 1)" + of, x.look(0, 29, 1), 1);
            }
        }
    }

    private static void act(MirrorHour x, int kind, int day) {
        boolean done;
        switch (kind) {
            case 0 -> done = x.book(1, day);
            case 1 -> done = x.callOff(x.hall(9) == 1 ? 9 : 4);
            case 2 -> done = x.shock(0, 1, day - 9);
            default -> done = x.days(day - 9) > 0;
        }
        Check.due("act " + kind, done, true);
    }

    private static void sixteenIsAllThatIsKept() {
        MirrorHour x = Check.town(TOWN);
        x.shock(0, 0, 1);
        for (int i = 0; i < 15; i++) {
            x.days(1);
        }
        Check.due("the sixteenth is kept", x.size(12), 16);
        for (int i = 0; i < 16; i++) {
            Check.due("undo of the sixteen", x.undo(), true);
        }
        Check.due("the first one too", x.size(11), 0);
        x.shock(0, 0, 1);
        for (int i = 0; i < 16; i++) {
            x.days(1);
        }
        for (int i = 0; i < 16; i++) {
            Check.due("undo of the latest sixteen", x.undo(), true);
        }
        Check.refused(x, "undo of the first of seventeen", x.undo(), 6);
        Check.due("the first one stays", x.size(11), 1);
    }

    private static void imagesOfOneTown() {
        MirrorHour x = Check.town(TOWN);
        x.shock(0, 0, 1);
        x.image();
        x.days(3);
        x.town(Check.feed(x, "town marks 2"));
        Check.due("behind a town with a fault back(0)", x.back(0), true);
        Check.due("size(10)", x.size(10), 0);
        Check.due("size(11)", x.size(11), 1);
        x.image();
        x.image();
        Check.refused(x, "a fourth", x.image(), 3);
        x.undo();
        Check.refused(x, "undoing makes no room for it", x.image(), 3);
        x.back(2);
        Check.refused(x, "going back makes none either", x.image(), 3);
        Check.due("town", x.town(Check.feed(x, TOWN)), 2);
        Check.refused(x, "back(0) to the old town", x.back(0), 1);
        Check.due("image() begins anew", x.image(), 0);
        Check.due("back(0)", x.back(0), true);
        Check.due("size(11) of the new town", x.size(11), 0);
        Check.due("back(0) leaves the tape", x.feed(0, 0, 0, 0, 0), 20);
        x.back(0);
        Check.due("size(14)", x.size(14), 20);
    }

    private static void images() {
        MirrorHour x = Check.town(TOWN);
        Check.refused(x, "back(0) without an image", x.back(0), 1);
        Check.due("image 0", x.image(), 0);
        x.book(0, 5);
        x.shock(0, 0, 1);
        Check.due("image 1", x.image(), 1);
        Check.due("an image is no act", x.size(12), 2);
        x.days(6);
        x.callOff(9);
        x.shock(0, 0, 1);
        Check.due("image 2", x.image(), 2);
        Check.refused(x, "a fourth", x.image(), 3);
        Check.due("back(1)", x.back(1), true);
        Check.due("trouble()", x.trouble(), 0);
        Check.due("size(10)", x.size(10), 0);
        Check.due("hall(9)", x.hall(9), 1);
        Check.due("hall(5)", x.hall(5), 0);
        Check.due("size(11)", x.size(11), 1);
        Check.due("look(0, 9, 0)", x.look(0, 9, 0), 1);
        Check.due("size(13): all stay", x.size(13), 3);
        Check.due("size(12)", x.size(12), 0);
        Check.refused(x, "undo behind back", x.undo(), 6);
        Check.due("back(2), a later one", x.back(2), true);
        Check.due("size(10)", x.size(10), 6);
        Check.due("hall(9)", x.hall(9), -2);
        Check.due("look(0, 9, 0)", x.look(0, 9, 0), 2);
        x.book(1, 9);
        Check.due("back(0)", x.back(0), true);
        Check.due("hall(5)", x.hall(5), -2);
        x.callOff(4);
        Check.due("back(0) again", x.back(0), true);
        Check.due("hall(4)", x.hall(4), 0);
        Check.refused(x, "back(3)", x.back(3), 1);
        Check.refused(x, "back(-1)", x.back(-1), 1);
        Check.refused(x, "back(max)", x.back(Integer.MAX_VALUE), 1);
    }

    private static void led() {
        MirrorHour x = Check.town("town marks 3 within 0 late 0 shut 6;person p plain abc;person q vain bbc"
            + ";person r plain abc;change r day 3 mark 1 by 1");
        Check.led(x, 0, 1);
        Check.ledThrows(x, 1);
        Check.ledThrows(x, -1);
        x.days(3);
        Check.led(x, 0, 1);
        Check.led(x, 1, 2);
        Check.ledThrows(x, 2);
        x.book(2, 3);
        Check.ledThrows(x, 1);
        x.hall(77);
        Check.ledThrows(x, Integer.MAX_VALUE);
        Check.ledThrows(x, Integer.MIN_VALUE);
        Check.due("trouble() isn't told by led", x.trouble(), 2);
        x.shock(0, 0, 1);
        Check.led(x, 0, 0);
        Check.led(x, 1, 1);
        Check.ledThrows(x, 2);
        MirrorHour none = new MirrorHour();
        Check.ledThrows(none, 0);
    }

    private static void sizes() {
        MirrorHour x = Check.town(TOWN);
        int[] due = {3, 0, 0, 6, 2, 1, 2, 1, 2, 1, 0, 0, 0, 0, 0};
        for (int what = 0; what < due.length; what++) {
            Check.due("size(" + what + ")", x.size(what), due[what]);
        }
        x.feed(0, 0, 0, 0, 0);
        x.book(0, 0);
        x.shock(0, 0, 1);
        x.days(9);
        x.image();
        int[] then = {3, 0, 0, 6, 2, 1, 3, 1, 2, 1, 9, 1, 3, 1, 20};
        for (int what = 0; what < then.length; what++) {
            Check.due("size(" + what + ") then", x.size(what), then[what]);
        }
        x.hall(30);
        Check.due("size(15)", x.size(15), -1);
        Check.due("size(-1)", x.size(-1), -1);
        Check.due("size(max)", x.size(Integer.MAX_VALUE), -1);
        Check.due("trouble() isn't told by size", x.trouble(), 2);
        MirrorHour y = Check.town("town marks 5 within 2 late 3 shut 4;person p plain abcda");
        Check.due("size(0)", y.size(0), 5);
        Check.due("size(1)", y.size(1), 2);
        Check.due("size(2)", y.size(2), 3);
        Check.due("size(3)", y.size(3), 4);
    }
}
