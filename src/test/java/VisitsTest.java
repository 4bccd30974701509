/** Promises 22 to 29: the fewest visits more, rings, the best day, idle visits, swaps. */
public final class VisitsTest {
    private static final String HEAD = "town marks 3 within 0 late 0 shut 6";
    private static final String THREE = HEAD + ";person p plain aaa;person q plain aaa;person r plain aaa"
        + ";change p day 4 mark 0 by 1;change q day 4 mark 0 by 1;change r day 4 mark 0 by 1";

    private VisitsTest() {
    }

    public static void main(String[] args) {
        none();
        one();
        more();
        lateHelp();
        tooMany();
        notAheadOfNow();
        dayByDay();
        shutOrTaken();
        ofOnePersonAlone();
        rings();
        ringsOfFive();
        ringsByNow();
        ringsOnTheFirstDay();
        ringsByFirstWish();
        changedAskedAlone();
        bestDay();
        bestDayOfOneVisit();
        idle();
        idleOnFirstAndLastDay();
        swaps();
        swapsOnFirstAndLastDay();
        swapsOneAtATime();
        Check.end("VisitsTest");
    }

    private static void none() {
        MirrorHour x = Check.town(HEAD + ";person p plain aaa;wish p day 9");
        Check.due("fewest() of wishes that hold", x.fewest(), 0);
        Check.refused(x, "fewestAt(0)", x.fewestAt(0), 1);
        MirrorHour y = new MirrorHour();
        Check.refused(y, "fewest", y.fewest(), 1);
        Check.refused(y, "ring", y.ring(0), 1);
        Check.refused(y, "changed", y.changed(), 1);
        Check.refused(y, "bestDay", y.bestDay(0), 1);
        Check.refused(y, "idle", y.idle(), 1);
        Check.refused(y, "swapped", y.swapped(0, 1), 1);
        Check.refused(y, "bestSwap", y.bestSwap(), 1);
    }

    private static void one() {
        MirrorHour x = Check.town(THREE + ";wish q day 9");
        Check.due("fewest()", x.fewest(), 1);
        Check.due("fewestAt(0): the first day from the change on", x.fewestAt(0), 41);
        Check.refused(x, "fewestAt(1)", x.fewestAt(1), 1);
        Check.refused(x, "fewestAt(-1)", x.fewestAt(-1), 1);
        x.book(0, 4);
        Check.due("fewestAt(0): nobody's", x.fewestAt(0), 51);
        x.book(0, 5);
        Check.due("fewestAt(0): open", x.fewestAt(0), 71);
        x.days(8);
        Check.due("fewestAt(0): not ahead of NOW", x.fewestAt(0), 81);
        // a visit of his own behind the new one spoils it
        MirrorHour y = Check.town(HEAD + ";person p plain aaa;change p day 3 mark 0 by 1;change p day 5 mark 0 by 3"
            + ";visit p day 4;wish p day 9");
        Check.due("a visit in between that shows another look", y.holds(), 0);
        Check.due("fewest() behind it", y.fewestAt(0), 50);
        // late: the mirror shows two days ahead
        MirrorHour z = Check.town("town marks 3 within 0 late 2 shut 6;person p plain aaa;change p day 3 mark 0 by 1;wish p day 9");
        Check.due("fewestAt(0) by a late mirror", z.fewestAt(0), 50);
    }

    private static void more() {
        MirrorHour x = Check.town(THREE + ";wish r day 9;wish q day 9");
        Check.due("fewest() of two", x.fewest(), 2);
        Check.due("fewestAt(0)", x.fewestAt(0), 41);
        Check.due("fewestAt(1): another day", x.fewestAt(1), 52);
        MirrorHour y = Check.town(THREE + ";wish r day 9;wish q day 9;wish p day 5");
        Check.due("fewest() of three", y.fewest(), 3);
        Check.due("fewestAt(0)", y.fewestAt(0), 40);
        Check.due("fewestAt(1)", y.fewestAt(1), 51);
        Check.due("fewestAt(2)", y.fewestAt(2), 72);
        // two wishes of one person with a change between
        MirrorHour z = Check.town(THREE + ";change p day 8 mark 1 by 1;wish p day 8;wish p day 5");
        Check.due("fewest() of one who wishes twice", z.fewest(), 2);
        Check.due("fewestAt(0)", z.fewestAt(0), 40);
        Check.due("fewestAt(1)", z.fewestAt(1), 80);
        // a visit that mends one wish would break another
        MirrorHour w = Check.town(HEAD + ";person p plain aaa;change p day 2 mark 0 by 1;change p day 4 mark 0 by 3"
            + ";wish p day 3;wish p day 5");
        Check.due("fewest(): a second visit mends what the first spoils", w.fewest(), 2);
        Check.due("fewestAt(0)", w.fewestAt(0), 20);
        Check.due("fewestAt(1)", w.fewestAt(1), 40);
    }

    private static void lateHelp() {
        // p and q can be helped on any day, r on the last ones only
        MirrorHour x = Check.town(HEAD + ";person p plain aaa;person q plain aaa;person r plain aaa"
            + ";change p day 0 mark 0 by 1;change q day 0 mark 0 by 1;change r day 25 mark 0 by 1"
            + ";wish p day 29;wish q day 29;wish r day 29");
        Check.due("fewest()", x.fewest(), 3);
        Check.due("fewestAt(0)", x.fewestAt(0), 0);
        Check.due("fewestAt(1)", x.fewestAt(1), 11);
        Check.due("fewestAt(2)", x.fewestAt(2), 252);
    }

    private static void tooMany() {
        MirrorHour x = Check.town(THREE + ";person s plain aaa;change s day 4 mark 0 by 1"
            + ";wish p day 9;wish q day 9;wish r day 9;wish s day 9");
        Check.due("fewest() of four", x.fewest(), -2);
        Check.due("trouble()", x.trouble(), 0);
        Check.refused(x, "fewestAt(0)", x.fewestAt(0), 6);
        x.book(3, 5);
        Check.due("fewest() of three", x.fewest(), 3);
        Check.due("fewestAt(2)", x.fewestAt(2), 82);
        MirrorHour y = Check.town(HEAD + ";person p vain baa;wish p day 9");
        Check.due("fewest() of a vain one", y.fewest(), -2);
    }

    private static void notAheadOfNow() {
        MirrorHour x = Check.town(THREE + ";wish p day 5");
        x.days(5);
        Check.due("fewestAt(0) on the day NOW", x.fewestAt(0), 50);
        x.days(1);
        Check.due("fewest() of a wish that is over", x.fewest(), -2);
    }

    /** How many FEWEST are, -2 where three aren't enough, and their codes. */
    private static void fewest(MirrorHour x, int count, int... codes) {
        Check.due("fewest()", x.fewest(), count);
        Check.due("trouble() of fewest()", x.trouble(), 0);
        for (int i = 0; i < codes.length; i++) {
            Check.due("fewestAt(" + i + ")", x.fewestAt(i), codes[i]);
            Check.due("trouble() of fewestAt(" + i + ")", x.trouble(), 0);
        }
        Check.refused(x, "fewestAt of one too many", x.fewestAt(codes.length), count < 0 ? 6 : 1);
    }

    private static void dayByDay() {
        // each of the days 7, 8, 9 is the only one for its wish
        MirrorHour x = Check.town(HEAD + ";person p plain aaa;change p day 7 mark 0 by 1;change p day 8 mark 1 by 1"
            + ";change p day 9 mark 2 by 1;wish p day 9;wish p day 7;wish p day 8");
        fewest(x, 3, 70, 80, 90);
        x.days(7);
        fewest(x, 3, 70, 80, 90);
        x.days(1);
        fewest(x, -2);
        MirrorHour y = Check.town(THREE + ";wish p day 7;wish q day 8;wish r day 9");
        y.days(7);
        fewest(y, 3, 70, 81, 92);
        y.book(1, 9);
        fewest(y, -2);
        y.undo();
        y.book(1, 8);
        fewest(y, 2, 70, 92);
        y.book(0, 7);
        fewest(y, 1, 92);
        y.book(2, 9);
        fewest(y, 0);
        MirrorHour z = Check.town(HEAD + ";person p plain aaa;change p day 29 mark 0 by 1;wish p day 29");
        fewest(z, 1, 290);
        z.days(29);
        fewest(z, 1, 290);
        // five people, each with a day of his own, of whom three wait
        MirrorHour w = Check.town("town marks 3 within 0 late 0 shut 0;person p plain aaa;person q plain aaa;person r plain aaa"
            + ";person s plain aaa;person t plain aaa;change t day 1 mark 0 by 1;change s day 1 mark 0 by 1"
            + ";change r day 1 mark 0 by 1;wish p day 1;wish q day 1;wish r day 3;wish s day 2;wish t day 1");
        fewest(w, 3, 14, 23, 32);
    }

    /** The first day would do, but it is shut, or somebody's; who doesn't wish may be mistaken. */
    private static void shutOrTaken() {
        String changes = ";person p plain aaa;person q plain aaa;change p day 0 mark 0 by 1;change q day 4 mark 0 by 1";
        fewest(Check.town("town marks 3 within 0 late 0 shut 6" + changes + ";wish p day 9"), 1, 0);
        fewest(Check.town("town marks 3 within 0 late 0 shut 0" + changes + ";wish p day 9"), 1, 10);
        fewest(Check.town("town marks 3 within 0 late 0 shut 0" + changes + ";visit q day 1;wish p day 9"), 1, 20);
        fewest(Check.town("town marks 3 within 0 late 0 shut 0" + changes + ";wish q day 5"), 1, 41);
        fewest(Check.town("town marks 3 within 0 late 0 shut 0" + changes + ";wish p day 0"), -2);
        fewest(Check.town("town marks 3 within 0 late 0 shut 6" + changes + ";wish p day 0"), 1, 0);
        fewest(Check.town("town marks 3 within 0 late 0 shut 4" + changes + ";wish q day 4"), -2);
        fewest(Check.town("town marks 3 within 0 late 0 shut 6" + changes + ";visit p day 4;wish q day 4"), -2);
    }

    private static void ofOnePersonAlone() {
        // four days of one person's are more than three
        String four = HEAD + ";person p plain aaa;change p day 7 mark 0 by 1;change p day 8 mark 1 by 1"
            + ";change p day 9 mark 2 by 1;change p day 10 mark 0 by 1;wish p day 7;wish p day 8;wish p day 9;wish p day 10";
        MirrorHour x = Check.town(four);
        fewest(x, -2);
        x.book(0, 8);
        fewest(x, 3, 70, 90, 100);
        // a wish that no visit can help, as he is vain
        MirrorHour y = Check.town(HEAD + ";person p vain aaa;person q plain aaa;change p day 7 mark 0 by 1"
            + ";change q day 7 mark 0 by 1;wish p day 6;wish q day 7;wish p day 8");
        fewest(y, -2);
        Check.due("holds()", y.holds(), 1);
        // who is vain, but doesn't wish, needs no visit
        fewest(Check.town(HEAD + ";person p vain baa;person q plain aaa;change q day 7 mark 0 by 1;wish q day 7"), 1, 71);
    }

    private static void rings() {
        // p has 8, would like 2 (q's); q has 2, would like 4 (r's); r has 4, would like 8 (p's)
        String three = HEAD + ";person p plain aaa;person q plain aaa;person r plain aaa;person s plain aaa"
            + ";visit p day 8;visit q day 2;visit r day 4;visit s day 14";
        MirrorHour x = Check.town(three + ";wish p day 0;wish q day 4;wish r day 9");
        Check.due("ring(0)", x.ring(0), 2);
        Check.due("ring(1)", x.ring(1), 4);
        Check.due("ring(2)", x.ring(2), 8);
        Check.due("ring(3) of one without a wish", x.ring(3), -2);
        Check.due("changed()", x.changed(), 3);
        Check.refused(x, "ring(4)", x.ring(4), 1);
        // all like 4 best (q's wish lies between 2 and 4... the earlier), then what is left
        MirrorHour y = Check.town(three + ";wish r day 4;wish p day 4;wish q day 4;wish s day 29;wish p day 8");
        Check.due("ring(2) keeps", y.ring(2), 4);
        Check.due("ring(1): 2 is nearer to 4 than 8", y.ring(1), 2);
        Check.due("ring(0): 8 is what is left, by his first wish", y.ring(0), 8);
        Check.due("ring(3)", y.ring(3), 14);
        Check.due("changed()", y.changed(), 0);
        // 3 is as near to 2 as to 4: the earlier
        MirrorHour z = Check.town(three + ";wish r day 3;wish q day 3");
        Check.due("ring(1): the earlier", z.ring(1), 2);
        Check.due("ring(2)", z.ring(2), 4);
        MirrorHour w = Check.town(three + ";wish p day 3;wish q day 13");
        Check.due("ring(0) gets the earlier", w.ring(0), 2);
        Check.due("ring(1)", w.ring(1), 8);
        Check.due("changed()", w.changed(), 2);
    }

    private static void ringsOfFive() {
        String five = "town marks 3 within 0 late 0 shut 0";
        for (char c = 'p'; c <= 't'; c++) {
            five += ";person " + c + " plain aaa;visit " + c + " day " + (c - 'p' + 1) * 4;
        }
        MirrorHour x = Check.town(five + ";wish p day 4;wish q day 8;wish r day 12;wish s day 16;wish t day 20");
        MirrorHour y = Check.town(five + ";wish p day 8;wish q day 12;wish r day 16;wish s day 20;wish t day 4");
        for (int p = 0; p < 5; p++) {
            Check.due("each is a ring of his own: ring(" + p + ")", x.ring(p), 4 * p + 4);
            Check.due("one ring of all: ring(" + p + ")", y.ring(p), p == 4 ? 4 : 4 * p + 8);
        }
        Check.due("changed() of none", x.changed(), 0);
        Check.due("changed() of all", y.changed(), 5);
    }

    private static void ringsByNow() {
        MirrorHour x = Check.town(HEAD + ";person p plain aaa;person q plain aaa"
            + ";visit p day 2;visit p day 9;visit q day 4;visit q day 15;wish p day 16;wish q day 8");
        Check.due("ring(0) of one with two visits", x.ring(0), -2);
        Check.due("changed()", x.changed(), 0);
        x.days(4);
        Check.due("ring(0) with one left, alone", x.ring(0), 9);
        Check.due("ring(1) has one on the day NOW", x.ring(1), -2);
        x.days(1);
        Check.due("ring(0)", x.ring(0), 15);
        Check.due("ring(1)", x.ring(1), 9);
        Check.due("changed()", x.changed(), 2);
        x.callOff(15);
        Check.due("ring(1) without a visit", x.ring(1), -2);
    }

    private static void ringsOnTheFirstDay() {
        String two = HEAD + ";person p plain aaa;person q plain aaa;visit p day 0;visit q day 29;wish p day 29;wish q day 0";
        MirrorHour x = Check.town(two);
        Check.due("ring(0) gets the last day", x.ring(0), 29);
        Check.due("ring(1) gets the first day", x.ring(1), 0);
        Check.due("changed()", x.changed(), 2);
        MirrorHour y = Check.town(two + ";visit p day 5");
        Check.due("ring(0) of one with two visits, one on day 0", y.ring(0), -2);
        Check.due("ring(1) alone", y.ring(1), 29);
        Check.due("changed() of none", y.changed(), 0);
        y.days(1);
        Check.due("ring(0) of one with one behind NOW", y.ring(0), 29);
        Check.due("ring(1)", y.ring(1), 5);
        MirrorHour z = Check.town(HEAD + ";person p plain aaa;person q plain aaa;visit p day 0;visit q day 4;wish q day 4");
        Check.due("ring(0) of one without a wish", z.ring(0), -2);
        Check.due("ring(1), whom nobody else is in", z.ring(1), 4);
        Check.due("changed()", z.changed(), 0);
    }

    private static void ringsByFirstWish() {
        String two = HEAD + ";person p plain aaa;person q plain aaa;person r plain aaa;visit p day 2;visit q day 9;visit r day 15";
        MirrorHour x = Check.town(two + ";wish q day 1;wish p day 10;wish p day 1");
        Check.due("ring(0) by the wish told first", x.ring(0), 9);
        Check.due("ring(1)", x.ring(1), 2);
        MirrorHour y = Check.town(two + ";wish q day 1;wish p day 1;wish p day 10");
        Check.due("ring(0) by the wish told first", y.ring(0), 2);
        Check.due("ring(1) of what is left", y.ring(1), 9);
        // of like ones the earlier, whoever has it: 12 is as near to 9 as to 15; 9 is q's
        MirrorHour z = Check.town(two + ";wish q day 12;wish r day 9");
        Check.due("ring(1) keeps the earlier", z.ring(1), 9);
        Check.due("ring(2) has what is left", z.ring(2), 15);
        MirrorHour w = Check.town(HEAD + ";person p plain aaa;person q plain aaa;person r plain aaa"
            + ";visit p day 15;visit q day 9;visit r day 22;wish r day 12;wish p day 22;wish q day 9");
        Check.due("ring(1) keeps his", w.ring(1), 9);
        Check.due("ring(2) has what is left nearest", w.ring(2), 15);
        Check.due("ring(0)", w.ring(0), 22);
    }

    private static void changedAskedAlone() {
        String two = HEAD + ";person p plain aaa;person q plain aaa;visit p day 2;visit q day 4;wish p day 4;wish q day 2";
        MirrorHour x = Check.town(two);
        Check.due("changed() asked first", x.changed(), 2);
        x.callOff(2);
        Check.due("changed() when one has called off", x.changed(), 0);
        x.undo();
        Check.due("changed() when that is undone", x.changed(), 2);
    }

    private static void bestDay() {
        MirrorHour x = Check.town(THREE + ";wish p day 4;wish p day 9;wish q day 0");
        Check.due("bestDay(0)", x.bestDay(0), 4);
        Check.due("bestDay(1): it's all the same", x.bestDay(1), 0);
        x.book(2, 4);
        Check.due("bestDay(0): nobody's", x.bestDay(0), 5);
        x.days(6);
        Check.due("bestDay(0): not ahead, open", x.bestDay(0), 7);
        Check.refused(x, "bestDay(3)", x.bestDay(3), 1);
        x.days(21);
        Check.due("bestDay(1) on 28, 29", x.bestDay(1), 28);
        x.book(0, 28);
        x.book(0, 29);
        Check.due("bestDay() without a day", x.bestDay(1), -2);
        Check.due("trouble()", x.trouble(), 0);
    }

    private static void bestDayOfOneVisit() {
        // both wishes of p would need a visit each; one visit makes one of them hold
        MirrorHour x = Check.town(THREE + ";change p day 8 mark 1 by 1;wish p day 5;wish p day 9");
        Check.due("bestDay(0) of one visit, not of all that were tried", x.bestDay(0), 4);
        Check.due("bestDay(1)", x.bestDay(1), 0);
        Check.due("size(6): none is booked", x.size(6), 0);
        MirrorHour y = Check.town("town marks 3 within 0 late 0 shut 0;person p plain aaa;person q vain baa;wish q day 9");
        Check.due("bestDay(0) of no wish that holds: the first open day", y.bestDay(0), 1);
        y.book(1, 1);
        Check.due("bestDay(0): nobody's", y.bestDay(0), 2);
        y.days(29);
        Check.due("bestDay(0) on the last day", y.bestDay(0), 29);
        y.book(1, 29);
        Check.due("bestDay(0) behind all days", y.bestDay(0), -2);
        Check.due("trouble()", y.trouble(), 0);
        // with a visit on days 0 .. 3 the wish that holds would fail: he looks on day 4 as told
        MirrorHour z = Check.town(HEAD + ";person p plain aaa;change p day 0 mark 0 by 1;change p day 4 mark 0 by 3;wish p day 5");
        Check.due("bestDay(0) that spoils nothing", z.bestDay(0), 4);
    }

    private static void idle() {
        MirrorHour x = Check.town(THREE + ";visit p day 4;visit p day 7;visit q day 2;visit q day 5;visit r day 29"
            + ";wish p day 5;wish q day 8");
        // without p on 4 his wish fails, without q on 5 his does
        Check.due("idle()", x.idle(), 1 << 7 | 1 << 2 | 1 << 29);
        x.days(3);
        Check.due("idle() NOW or behind", x.idle(), 1 << 7 | 1 << 29);
        x.days(4);
        Check.due("idle() on the day NOW", x.idle(), 1 << 7 | 1 << 29);
        // without a visit one more wish holds
        MirrorHour y = Check.town(HEAD + ";person p plain aaa;change p day 3 mark 0 by 1;change p day 5 mark 0 by 3"
            + ";visit p day 4;wish p day 9");
        Check.due("idle() by which more hold", y.idle(), 1 << 4);
    }

    private static void idleOnFirstAndLastDay() {
        MirrorHour x = Check.town(THREE + ";visit p day 0;visit q day 29;visit r day 5;wish r day 5");
        Check.due("idle() on days 0 and 29", x.idle(), 1 | 1 << 29);
        // each of two visits is idle without the other one being so
        MirrorHour y = Check.town(THREE + ";visit p day 4;visit p day 5;wish p day 9");
        Check.due("idle() each alone", y.idle(), 1 << 4 | 1 << 5);
        y.callOff(4);
        Check.due("idle() of none", y.idle(), 0);
        y.callOff(5);
        Check.due("idle() without a visit", y.idle(), 0);
        Check.due("trouble()", y.trouble(), 0);
        x.days(29);
        Check.due("idle() on the last day", x.idle(), 1 << 29);
    }

    private static void swapsOnFirstAndLastDay() {
        MirrorHour x = Check.town(HEAD + ";person p plain aaa;person q plain aaa;change p day 1 mark 0 by 1"
            + ";visit p day 0;visit q day 1;wish p day 1");
        Check.due("bestSwap() of the first two days", x.bestSwap(), 1);
        Check.due("swapped(0, 1)", x.swapped(0, 1), 1);
        MirrorHour y = Check.town(HEAD + ";person p plain aaa;person q plain aaa;change p day 29 mark 0 by 1"
            + ";visit p day 28;visit q day 29;wish p day 29");
        Check.due("bestSwap() of the last two days", y.bestSwap(), 2829);
        y.days(28);
        Check.due("bestSwap() on the last two days", y.bestSwap(), 2829);
        y.days(1);
        Check.due("bestSwap() of one day", y.bestSwap(), -2);
        Check.refused(y, "swapped(28, 29), one ahead of NOW", y.swapped(28, 29), 5);
        Check.refused(y, "swapped(29, 28), one ahead of NOW", y.swapped(29, 28), 5);
        // nothing holds, whatever changes
        MirrorHour z = Check.town(HEAD + ";person p vain baa;person q plain aaa;visit p day 2;visit q day 4;wish p day 9");
        Check.due("bestSwap() where none helps", z.bestSwap(), -2);
        Check.due("swapped(2, 4)", z.swapped(2, 4), 0);
        z.callOff(4);
        Check.due("bestSwap() of one visit", z.bestSwap(), -2);
        Check.due("trouble()", z.trouble(), 0);
    }

    private static void swapsOneAtATime() {
        // p's visit helps his wish, so does s's; q's helps his behind day 5 only
        MirrorHour x = Check.town(HEAD + ";person p plain aaa;person q plain aaa;person r plain aaa;person s plain aaa"
            + ";change p day 2 mark 0 by 1;change q day 5 mark 0 by 1;change s day 8 mark 0 by 1"
            + ";visit p day 2;visit q day 4;visit r day 5;visit s day 8;wish p day 3;wish q day 9;wish s day 9");
        Check.due("holds()", x.holds(), 5);
        Check.due("bestSwap()", x.bestSwap(), 405);
        Check.due("swapped(4, 5)", x.swapped(4, 5), 3);
        Check.due("swapped(2, 5)", x.swapped(2, 5), 1);
        Check.due("swapped(4, 8)", x.swapped(4, 8), 2);
        Check.due("swapped(5, 4)", x.swapped(5, 4), 3);
        Check.due("hall(4) stays", x.hall(4), 1);
    }

    private static void swaps() {
        MirrorHour x = Check.town(THREE + ";visit p day 2;visit q day 4;visit r day 5;visit r day 8"
            + ";wish p day 4;wish r day 7");
        Check.due("swapped(2, 4)", x.swapped(2, 4), 2);
        Check.due("swapped(4, 2)", x.swapped(4, 2), 2);
        Check.due("swapped(2, 5): p too late, r too early", x.swapped(2, 5), 0);
        Check.due("swapped(5, 8): one and the same", x.swapped(5, 8), 1);
        Check.due("swapped leaves all as it is", x.hall(2), 0);
        Check.due("bestSwap()", x.bestSwap(), 204);
        Check.refused(x, "swapped(4, 4)", x.swapped(4, 4), 5);
        Check.refused(x, "swapped(4, 3)", x.swapped(4, 3), 5);
        Check.refused(x, "swapped(6, 4)", x.swapped(6, 4), 5);
        Check.refused(x, "swapped(4, 30)", x.swapped(4, 30), 2);
        Check.refused(x, "swapped(-1, 4)", x.swapped(-1, 4), 2);
        Check.refused(x, "swapped(30, 30)", x.swapped(30, 30), 2);
        x.days(3);
        Check.refused(x, "swapped(2, 4) ahead of NOW", x.swapped(2, 4), 5);
        Check.due("bestSwap(): none is better than none", x.bestSwap(), -2);
        Check.due("trouble()", x.trouble(), 0);
        // of like ones the first: p on 4 or on 5 is as good
        MirrorHour y = Check.town(THREE + ";visit p day 2;visit p day 3;visit q day 4;visit q day 5;wish p day 5");
        Check.due("bestSwap() of like ones", y.bestSwap(), 204);
    }
}
