/** Promises 33 to 37: marks to guard by, the unknown one. */
public final class GuardsTest {
    private static final String HEAD = "town marks 3 within 0 late 0 shut 6";

    private GuardsTest() {
    }

    public static void main(String[] args) {
        guards();
        unknown();
        pass();
        passEdges();
        fivePeople();
        refusals();
        Check.end("GuardsTest");
    }

    private static void guards() {
        Check.due("one person: no mark", Check.town(HEAD + ";person p plain aaa").guard(0), 0);
        MirrorHour x = Check.town(HEAD + ";person p plain aab;person q plain abc");
        Check.due("guard(0): one of two, the least", x.guard(0), 2);
        MirrorHour y = Check.town(HEAD + ";person p plain aaa;person q plain aba;person r plain bba");
        Check.due("guard(0): two marks", y.guard(0), 3);
        MirrorHour z = Check.town(HEAD + ";person p plain abb;person q plain bab;person r plain bba");
        Check.due("guard(0): two marks, of like ones the least", z.guard(0), 3);
        MirrorHour w = Check.town(HEAD + ";person p plain abb;person q plain abb");
        Check.due("guard(0): all marks aren't enough", w.guard(0), -2);
        Check.due("trouble()", w.trouble(), 0);
        // q's look becomes p's, but his papers say otherwise: p's papers are like q's look
        MirrorHour v = Check.town(HEAD + ";person p plain abb;person q plain abc;change q day 5 mark 2 by 3");
        Check.due("guard(4)", v.guard(4), 4);
        Check.due("guard(5)", v.guard(5), -2);
        MirrorHour six = Check.town("town marks 6 within 0 late 0 shut 6;person p plain aaaaaa;person q plain baaaaa"
            + ";person r plain abaaaa;person s plain aabaaa;change q day 1 mark 0 by 3;change q day 1 mark 3 by 1"
            + ";change r day 1 mark 1 by 3;change r day 1 mark 4 by 1;change s day 1 mark 2 by 3;change s day 1 mark 5 by 1");
        Check.due("guard(0) of six marks", six.guard(0), 7);
        Check.due("guard(1): all six marks", six.guard(1), 63);
        MirrorHour u = Check.town(HEAD + ";person p plain abb;person q plain abc;change q day 5 mark 1 by 1;visit q day 8");
        Check.due("guard(5) by q's look and his old papers", u.guard(5), 4);
        Check.due("guard(8): mark 1 alone does too", u.guard(8), 2);
    }

    private static void unknown() {
        MirrorHour x = Check.town(HEAD + ";person p plain abc;person q plain abd;stare p 3");
        Check.due("unknown() like him in all", x.unknown(), 1);
        Check.due("unknownAt(0)", x.unknownAt(0), 123);
        Check.refused(x, "unknownAt(1)", x.unknownAt(1), 1);
        Check.refused(x, "unknownAt(-1)", x.unknownAt(-1), 1);
        MirrorHour y = Check.town(HEAD + ";person p plain abc;person q plain abd;stare p 3;stare q 3");
        Check.due("unknown() of none", y.unknown(), 0);
        Check.refused(y, "unknownAt(0)", y.unknownAt(0), 1);
        Check.due("pass() of none", y.pass(), -2);
        Check.due("passLeaves() of none", y.passLeaves(), -2);
        MirrorHour z = Check.town(HEAD + ";person p plain abc;stare p 0");
        Check.due("unknown() like him in none", z.unknown(), 27);
        Check.due("unknownAt(0)", z.unknownAt(0), 211);
        Check.due("unknownAt(26)", z.unknownAt(26), 444);
        z.shock(0, 0, 1);
        Check.due("unknownAt(0) by the look as told", z.unknownAt(0), 211);
        MirrorHour w = Check.town("town marks 6 within 0 late 0 shut 6;person p plain abcdab");
        Check.due("unknown() of six marks", w.unknown(), 4096);
        Check.due("unknownAt(0)", w.unknownAt(0), 111111);
        Check.due("unknownAt(1): the last mark goes first", w.unknownAt(1), 111112);
        Check.due("unknownAt(4095)", w.unknownAt(4095), 444444);
        Check.refused(w, "unknownAt(4096)", w.unknownAt(4096), 1);
    }

    private static void pass() {
        MirrorHour x = Check.town(HEAD + ";person p plain aaa;person q plain aab;stare p 2");
        // aab, aac, aad, aba .. ada, baa .. daa: p's marks alike are known; q: 3 once, 2 twice, 1 six times
        Check.due("unknown()", x.unknown(), 9);
        Check.due("pass(): not p, who tells nothing new", x.pass(), 1);
        Check.due("passLeaves()", x.passLeaves(), 6);
        MirrorHour y = Check.town(HEAD + ";person p plain aaa;person q plain bbb");
        Check.due("pass(): of like ones the first", y.pass(), 0);
        Check.due("passLeaves()", y.passLeaves(), 27);
    }

    private static void passEdges() {
        // passLeaves() and pass() each asked first
        Check.due("passLeaves() of all", Check.town(HEAD + ";person p plain aaa").passLeaves(), 27);
        MirrorHour x = Check.town(HEAD + ";person p plain aaa;stare p 3");
        Check.due("passLeaves() of the first look alone", x.passLeaves(), 1);
        Check.due("pass()", x.pass(), 0);
        MirrorHour y = Check.town(HEAD + ";person p plain ddd;stare p 3");
        Check.due("unknownAt(0) of the last look alone", y.unknownAt(0), 444);
        Check.due("passLeaves()", y.passLeaves(), 1);
        MirrorHour z = Check.town(HEAD + ";person p plain aaa;stare p 0");
        Check.due("passLeaves() of those alike in no mark", z.passLeaves(), 27);
        MirrorHour w = Check.town("town marks 6 within 0 late 0 shut 6;person p plain abcdab;stare p 6");
        Check.due("passLeaves() of one alike in six marks", w.passLeaves(), 1);
        Check.due("unknownAt(0)", w.unknownAt(0), 123412);
        MirrorHour v = Check.town(HEAD + ";person p plain aaa;person q plain bbb;stare p 2;stare q 2");
        Check.due("unknown() of none", v.unknown(), 0);
        Check.due("passLeaves() of none", v.passLeaves(), -2);
        Check.due("trouble() of none", v.trouble(), 0);
        Check.due("pass() of none", v.pass(), -2);
        Check.due("trouble() of none", v.trouble(), 0);
    }

    private static void fivePeople() {
        String four = HEAD + ";person p plain aaa;person q plain aaa;person r plain aaa;person s plain aaa";
        MirrorHour x = Check.town(four + ";person t plain aab");
        Check.due("unknown() without a stare", x.unknown(), 64);
        Check.due("unknownAt(0)", x.unknownAt(0), 111);
        Check.due("pass() of all looks", x.pass(), 0);
        MirrorHour y = Check.town(four + ";person t plain aab;stare p 2");
        Check.due("pass() is the last, who isn't stared at", y.pass(), 4);
        Check.due("passLeaves()", y.passLeaves(), 6);
        MirrorHour z = Check.town("town marks 6 within 0 late 0 shut 6;person p plain aaaaaa;person q plain aaaaaa"
            + ";person r plain aaaaaa;person s plain aaaaaa;person t plain aaaaab;stare s 5");
        // 18 looks: t is alike in 6 once, in 5 twice, in 4 fifteen times
        Check.due("unknown() of six marks", z.unknown(), 18);
        Check.due("pass()", z.pass(), 4);
        Check.due("passLeaves()", z.passLeaves(), 15);
    }

    private static void refusals() {
        MirrorHour x = Check.town(HEAD + ";person p plain aaa");
        Check.refused(x, "guard(30)", x.guard(30), 2);
        Check.refused(x, "guard(-1)", x.guard(-1), 2);
        MirrorHour none = new MirrorHour();
        Check.refused(none, "guard", none.guard(30), 1);
        Check.refused(none, "unknown", none.unknown(), 1);
        Check.refused(none, "pass", none.pass(), 1);
        Check.refused(none, "passLeaves", none.passLeaves(), 1);
    }
}
