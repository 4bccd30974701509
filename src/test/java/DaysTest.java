/** Promises 6 to 21: what people look like, believe, show, know, day by day. */
public final class DaysTest {
    private static final String TOWN = "town marks 4 within 1 late 2 shut 3;person al plain abcd;person bo aged dcba;"
        + "person cy bearded aaaa;person di vain bbbb;"
        + "change al day 6 mark 3 by 1;change al day 6 mark 3 by 2;change al day 12 mark 0 by 3;"
        + "visit al day 7;visit al day 14;visit bo day 11;visit cy day 1;visit di day 20;"
        + "wish al day 7;wish al day 14;wish bo day 21;wish di day 2;wish cy day 8";

    private DaysTest() {
    }

    public static void main(String[] args) {
        looks();
        beliefs();
        papersOfAll();
        kindsAndVisits();
        knowing();
        passing();
        twins();
        wishes();
        firstAndLastDay();
        nobodyBeyond();
        wraps();
        upToWithin();
        lateByAll();
        shutDays();
        refusals();
        Check.end("DaysTest");
    }

    private static void looks() {
        MirrorHour x = Check.town(TOWN);
        Check.due("al 0, 5", x.look(0, 5, 3), 3);
        Check.due("al 3, 6: by two changes", x.look(0, 6, 3), 2);
        Check.due("al 0, 11", x.look(0, 11, 0), 0);
        Check.due("al 0, 12", x.look(0, 12, 0), 3);
        Check.due("al 1, 29", x.look(0, 29, 1), 1);
        Check.due("bo 0, 0", x.look(1, 0, 0), 3);
        Check.due("bo 0, 9", x.look(1, 9, 0), 3);
        Check.due("bo 0, 10: behind d comes a", x.look(1, 10, 0), 0);
        Check.due("bo 0, 20", x.look(1, 20, 0), 1);
        Check.due("bo 0, 29", x.look(1, 29, 0), 1);
        Check.due("bo 1, 29", x.look(1, 29, 1), 2);
        Check.due("cy 1, 0", x.look(2, 0, 1), 0);
        Check.due("cy 1, 3", x.look(2, 3, 1), 0);
        Check.due("cy 1, 4", x.look(2, 4, 1), 1);
        Check.due("cy 1, 8", x.look(2, 8, 1), 2);
        Check.due("cy 1, 28", x.look(2, 28, 1), 3);
        Check.due("cy 0, 28", x.look(2, 28, 0), 0);
        Check.due("di 0, 29", x.look(3, 29, 0), 1);
        x.days(5);
        x.shock(3, 2, 3);
        Check.due("di 2, 4 ahead of a shock", x.look(3, 4, 2), 1);
        Check.due("di 2, 5 by a shock", x.look(3, 5, 2), 0);
        Check.due("change on day 0 of the first letter", Check.town(
            "town marks 3 within 0 late 0 shut 0;person p plain aaa;change p day 0 mark 1 by 3").look(0, 0, 1), 3);
    }

    private static void beliefs() {
        MirrorHour x = Check.town(TOWN);
        Check.due("al 3, 6: as told", x.belief(0, 6, 3), 3);
        Check.due("al 3, 7: day 5", x.belief(0, 7, 3), 3);
        Check.due("al 3, 13: day 5", x.belief(0, 13, 3), 3);
        Check.due("al 3, 14: day 12", x.belief(0, 14, 3), 2);
        Check.due("al 0, 14: day 12", x.belief(0, 14, 0), 3);
        Check.due("bo 0, 10", x.belief(1, 10, 0), 3);
        Check.due("bo 0, 11: day 9", x.belief(1, 11, 0), 3);
        Check.due("cy 1, 1: day 0", x.belief(2, 1, 1), 0);
        Check.due("di 0: a vain one without a visit", x.belief(3, 0, 0), 0);
        Check.due("di 0: a vain one by a visit", x.belief(3, 20, 0), 0);
        Check.due("di 1", x.belief(3, 20, 1), 1);
        MirrorHour y = Check.town("town marks 3 within 0 late 3 shut 6;person p plain abc;change p day 0 mark 0 by 1;visit p day 2");
        Check.due("as told, without what changes on day 0", y.belief(0, 1, 0), 0);
        Check.due("below day 0: day 0", y.belief(0, 2, 0), 1);
    }

    private static void papersOfAll() {
        MirrorHour x = Check.town(TOWN);
        Check.due("al 3, 6: as told", x.papers(0, 6, 3), 3);
        Check.due("al 3, 7: without late", x.papers(0, 7, 3), 2);
        Check.due("al 0, 13", x.papers(0, 13, 0), 0);
        Check.due("al 0, 14", x.papers(0, 14, 0), 3);
        Check.due("bo 0, 11", x.papers(1, 11, 0), 0);
        Check.due("di 0, 0: a vain one as it is", x.papers(3, 0, 0), 1);
        Check.due("di 0, 20: a vain one as it is", x.papers(3, 20, 0), 1);
    }

    private static void kindsAndVisits() {
        MirrorHour x = Check.town(TOWN);
        for (int p = 0; p < 4; p++) {
            Check.due("kind(" + p + ")", x.kind(p), p);
        }
        Check.due("latest(0, 6)", x.latest(0, 6), -2);
        Check.due("latest(0, 7)", x.latest(0, 7), 7);
        Check.due("latest(0, 13)", x.latest(0, 13), 7);
        Check.due("latest(0, 29)", x.latest(0, 29), 14);
        Check.due("latest(3, 19)", x.latest(3, 19), -2);
        Check.due("hall(7)", x.hall(7), 0);
        Check.due("hall(1)", x.hall(1), 2);
        Check.due("hall(2)", x.hall(2), -2);
        Check.due("hall(3)", x.hall(3), -3);
        Check.due("hall(10)", x.hall(10), -3);
        Check.due("hall(24)", x.hall(24), -3);
        Check.due("hall(29)", x.hall(29), -2);
    }

    private static void knowing() {
        MirrorHour x = Check.town(TOWN);
        // al: mark 3 on day 6 (told d, now c), mark 0 on day 12; believes day 5 from 7, day 12 from 14
        Check.due("mistaken(0, 5)", x.mistaken(0, 5), 0);
        Check.due("mistaken(0, 6)", x.mistaken(0, 6), 1);
        Check.due("mistaken(0, 12)", x.mistaken(0, 12), 2);
        Check.due("mistaken(0, 14)", x.mistaken(0, 14), 0);
        Check.due("stranger(0)", x.stranger(0), 12);
        Check.due("known(0)", x.known(0), 28);
        Check.due("stranger(1)", x.stranger(1), -2);
        Check.due("known(1)", x.known(1), 30);
        Check.due("mistaken(3, 0): vain", x.mistaken(3, 0), 1);
        Check.due("knows(11)", x.knows(11), 15);
        Check.due("knows(12)", x.knows(12), 14);
        Check.due("knows(14)", x.knows(14), 15);
        Check.due("worst(0)", x.worst(0), 3);
        Check.due("worst(12)", x.worst(12), 0);
        Check.due("worst(4): cy, di alike, the first", x.worst(4), 2);
        x.shock(2, 0, 1);
        Check.due("cy by a shock, day 4", x.mistaken(2, 4), 1);
        MirrorHour y = Check.town("town marks 3 within 0 late 1 shut 6;person p plain abc;person q plain abc");
        Check.due("worst of people who know themselves", y.worst(0), 0);
        Check.due("knows within 0", y.knows(29), 3);
        y.shock(1, 2, 2);
        Check.due("knows within 0, by a shock", y.knows(0), 1);
        Check.due("stranger(1)", y.stranger(1), 0);
        Check.due("known(1)", y.known(1), 0);
    }

    private static void passing() {
        MirrorHour x = Check.town("town marks 3 within 1 late 0 shut 6;person p plain abc;person q plain abd;"
            + "person r vain bbd;change p day 4 mark 2 by 1;visit p day 8");
        Check.due("passes(0, 0)", x.passes(0, 0), 2);
        Check.due("passes(1, 0)", x.passes(1, 0), 5);
        Check.due("passes(2, 0)", x.passes(2, 0), 2);
        Check.due("doubles(0)", x.doubles(0), 4);
        // p looks like abd from day 4, his papers say abc up to day 8
        Check.due("passes(0, 4)", x.passes(0, 4), 6);
        Check.due("passes(2, 4): for q, not for abc", x.passes(2, 4), 2);
        Check.due("passedBy(0, 4)", x.passedBy(0, 4), 2);
        Check.due("passedBy(1, 4)", x.passedBy(1, 4), 5);
        Check.due("passedBy(2, 4)", x.passedBy(2, 4), 3);
        Check.due("doubles(4)", x.doubles(4), 5);
        Check.due("passedBy(0, 8)", x.passedBy(0, 8), 6);
        Check.due("doubles(8)", x.doubles(8), 6);
    }

    private static void twins() {
        MirrorHour x = Check.town("town marks 3 within 0 late 0 shut 6;person p aged dbc;person q plain bbc;person r plain bbd");
        Check.due("twins() on day 20", x.twins(), 20);
        x.days(7);
        x.shock(2, 2, 3);
        Check.due("twins() by a shock", x.twins(), 7);
        MirrorHour y = Check.town("town marks 3 within 0 late 0 shut 6;person p plain dbc;person q plain bbc");
        Check.due("no twins()", y.twins(), -2);
        y.shock(1, 0, 2);
        Check.due("twins() on day 0", y.twins(), 0);
    }

    private static void wishes() {
        MirrorHour x = Check.town(TOWN);
        Check.due("holds()", x.holds(), 31);
        x.callOff(14);
        Check.due("holds() without day 14", x.holds(), 29);
        x.shock(3, 3, 1);
        Check.due("holds() by a shock", x.holds(), 21);
        Check.due("holds() without wishes", Check.town("town marks 3 within 0 late 0 shut 6;person p plain abc").holds(), 0);
    }

    private static void firstAndLastDay() {
        MirrorHour x = Check.town("town marks 3 within 0 late 0 shut 6;person p plain aaa;person q plain aaa"
            + ";change p day 0 mark 1 by 1;change q day 29 mark 2 by 1;visit p day 0;visit q day 29");
        Check.due("look on day 0 by a change on it", x.look(0, 0, 1), 1);
        Check.due("belief by a visit on day 0", x.belief(0, 0, 1), 1);
        Check.due("papers by a visit on day 0", x.papers(0, 0, 1), 1);
        Check.due("latest(0, 0)", x.latest(0, 0), 0);
        Check.due("latest(1, 28)", x.latest(1, 28), -2);
        Check.due("latest(1, 29)", x.latest(1, 29), 29);
        Check.due("look on day 28", x.look(1, 28, 2), 0);
        Check.due("look on day 29 by a change on it", x.look(1, 29, 2), 1);
        Check.due("belief by a visit on day 29", x.belief(1, 29, 2), 1);
        Check.due("papers by a visit on day 29", x.papers(1, 29, 2), 1);
        Check.due("known(1) on all days", x.known(1), 30);
        x.callOff(29);
        Check.due("stranger(1) on the last day", x.stranger(1), 29);
        Check.due("known(1) but the last day", x.known(1), 29);
        x.callOff(0);
        Check.due("stranger(0) on the first day", x.stranger(0), 0);
        Check.due("known(0) on no day", x.known(0), 0);
        Check.due("papers without a visit are as told", x.papers(0, 29, 1), 0);
        Check.due("belief without a visit is as told", x.belief(0, 29, 1), 0);
        MirrorHour y = Check.town("town marks 3 within 0 late 0 shut 6;person p plain aaa;person q plain aab"
            + ";person r plain bab;change r day 29 mark 0 by 3");
        Check.due("twins() of the second and the third on the last day", y.twins(), 29);
    }

    /** A town of one, whose look is aaa: there is nobody else, of no look. */
    private static void nobodyBeyond() {
        MirrorHour x = Check.town("town marks 3 within 2 late 0 shut 6;person p plain aaa");
        Check.due("passes(0, 0)", x.passes(0, 0), 0);
        Check.due("passedBy(0, 0)", x.passedBy(0, 0), 0);
        Check.due("doubles(0)", x.doubles(0), 0);
        Check.due("twins()", x.twins(), -2);
        Check.due("worst(0)", x.worst(0), 0);
        Check.due("knows(0)", x.knows(0), 1);
        Check.due("holds()", x.holds(), 0);
        x.shock(0, 0, 1);
        x.shock(0, 1, 1);
        x.shock(0, 2, 1);
        Check.due("worst(0) of one who is mistaken", x.worst(0), 0);
        MirrorHour y = Check.town("town marks 3 within 0 late 0 shut 6;person p plain aaa;person q plain aaa;person r plain aaa");
        y.shock(1, 0, 1);
        Check.due("worst(0) is the second", y.worst(0), 1);
        y.shock(2, 0, 1);
        Check.due("worst(0) of two like ones is the first", y.worst(0), 1);
        y.shock(2, 1, 1);
        Check.due("worst(0) is the last", y.worst(0), 2);
    }

    private static void wraps() {
        MirrorHour x = Check.town("town marks 3 within 0 late 0 shut 6;person p plain dcb;person q aged cdd;person r bearded ada"
            + ";change p day 1 mark 0 by 1;change p day 2 mark 1 by 2;change p day 3 mark 2 by 3");
        Check.due("d goes on by one", x.look(0, 1, 0), 0);
        Check.due("c goes on by two", x.look(0, 2, 1), 0);
        Check.due("b goes on by three", x.look(0, 3, 2), 0);
        int[] aged = {2, 2, 3, 3, 0, 0};
        int[] agedDays = {0, 9, 10, 19, 20, 29};
        for (int i = 0; i < aged.length; i++) {
            Check.due("aged on day " + agedDays[i], x.look(1, agedDays[i], 0), aged[i]);
        }
        for (int day = 0; day < 30; day++) {
            Check.due("bearded on day " + day, x.look(2, day, 1), (3 + day / 4) % 4);
            Check.due("plain on day " + day, x.look(0, day, 0), day < 1 ? 3 : 0);
        }
        for (int i = 0; i < 4; i++) {
            x.shock(0, 1, 3);
        }
        Check.due("four times three is all round", x.look(0, 29, 1), 0);
    }

    private static void upToWithin() {
        for (int within = 0; within <= 2; within++) {
            MirrorHour x = Check.town("town marks 3 within " + within + " late 0 shut 6;person p plain aaa;person q plain aaa"
                + ";wish p day 0");
            for (int unlike = 1; unlike <= 3; unlike++) {
                x.shock(0, unlike - 1, 1);
                String of = " of " + unlike + " within " + within;
                boolean more = unlike > within;
                Check.due("mistaken(0, 0)" + of, x.mistaken(0, 0), unlike);
                Check.due("knows(0)" + of, x.knows(0), more ? 2 : 3);
                Check.due("passes(0, 0)" + of, x.passes(0, 0), more ? 0 : 2);
                Check.due("passedBy(1, 0)" + of, x.passedBy(1, 0), more ? 0 : 1);
                Check.due("doubles(0)" + of, x.doubles(0), more ? 1 : 2);
                Check.due("holds()" + of, x.holds(), more ? 0 : 1);
                Check.due("stranger(0)" + of, x.stranger(0), more ? 0 : -2);
                Check.due("known(0)" + of, x.known(0), more ? 0 : 30);
            }
        }
    }

    /** What the mirror shows on a day: the look late days ahead of it, but none ahead of day 0. */
    private static void lateByAll() {
        for (int late = 0; late <= 3; late++) {
            for (int visit = 0; visit <= 4; visit++) {
                MirrorHour x = Check.town("town marks 3 within 0 late " + late + " shut 6;person p plain aaa"
                    + ";change p day 0 mark 0 by 1;change p day 1 mark 0 by 1;change p day 2 mark 0 by 1"
                    + ";visit p day " + visit);
                int shown = Math.max(0, visit - late);
                String of = " late " + late + " on day " + visit;
                Check.due("belief" + of, x.belief(0, visit, 0), Math.min(shown + 1, 3));
                Check.due("papers" + of, x.papers(0, visit, 0), Math.min(visit + 1, 3));
            }
        }
    }

    private static void shutDays() {
        for (int shut = 0; shut < 7; shut++) {
            MirrorHour x = Check.town("town marks 3 within 0 late 0 shut " + shut + ";person p plain aaa");
            for (int day = 0; day < 30; day++) {
                Check.due("hall(" + day + ") shut " + shut, x.hall(day), (day - shut) % 7 == 0 ? -3 : -2);
            }
        }
    }

    private static void refusals() {
        MirrorHour x = Check.town(TOWN);
        Check.refused(x, "look(4, 0, 0)", x.look(4, 0, 0), 1);
        Check.refused(x, "look(-1, 0, 0)", x.look(-1, 0, 0), 1);
        Check.refused(x, "look(0, 0, 4)", x.look(0, 0, 4), 1);
        Check.refused(x, "look(0, 0, -1)", x.look(0, 0, -1), 1);
        Check.refused(x, "look(0, 30, 0)", x.look(0, 30, 0), 2);
        Check.refused(x, "look(0, -1, 0)", x.look(0, -1, 0), 2);
        Check.refused(x, "look(0, 30, 4)", x.look(0, 30, 4), 1);
        Check.refused(x, "look(max)", x.look(Integer.MAX_VALUE, Integer.MAX_VALUE, Integer.MAX_VALUE), 1);
        Check.refused(x, "belief(4, 0, 0)", x.belief(4, 0, 0), 1);
        Check.refused(x, "belief(0, 0, 4)", x.belief(0, 0, 4), 1);
        Check.refused(x, "belief(0, 30, 0)", x.belief(0, 30, 0), 2);
        Check.refused(x, "papers(4, 0, 0)", x.papers(4, 0, 0), 1);
        Check.refused(x, "papers(0, 0, 4)", x.papers(0, 0, 4), 1);
        Check.refused(x, "papers(0, -1, 0)", x.papers(0, -1, 0), 2);
        Check.refused(x, "kind(4)", x.kind(4), 1);
        Check.refused(x, "kind(-1)", x.kind(-1), 1);
        Check.refused(x, "latest(4, 30)", x.latest(4, 30), 1);
        Check.refused(x, "latest(0, 30)", x.latest(0, 30), 2);
        Check.refused(x, "hall(30)", x.hall(30), 2);
        Check.refused(x, "hall(-1)", x.hall(-1), 2);
        Check.refused(x, "mistaken(4, 0)", x.mistaken(4, 0), 1);
        Check.refused(x, "mistaken(0, 30)", x.mistaken(0, 30), 2);
        Check.refused(x, "knows(30)", x.knows(30), 2);
        Check.refused(x, "stranger(4)", x.stranger(4), 1);
        Check.refused(x, "passes(4, 0)", x.passes(4, 0), 1);
        Check.refused(x, "passes(0, 30)", x.passes(0, 30), 2);
        Check.refused(x, "passedBy(4, 0)", x.passedBy(4, 0), 1);
        Check.refused(x, "passedBy(0, -1)", x.passedBy(0, -1), 2);
        Check.refused(x, "known(4)", x.known(4), 1);
        Check.refused(x, "worst(30)", x.worst(30), 2);
        Check.refused(x, "doubles(-1)", x.doubles(-1), 2);
        x.look(0, 0, 0);
        Check.due("trouble() of one that isn't refused", x.trouble(), 0);
        MirrorHour none = new MirrorHour();
        Check.refused(none, "worst", none.worst(0), 1);
        Check.refused(none, "doubles", none.doubles(0), 1);
        Check.refused(none, "knows", none.knows(0), 1);
        Check.refused(none, "twins", none.twins(), 1);
        Check.refused(none, "holds", none.holds(), 1);
    }
}
