/** Promises 30 to 32: whom to ask, how surely. */
public final class NeighboursTest {
    private static final String FIVE = "town marks 3 within 0 late 0 shut 6;person p plain aaa;person q plain aaa"
        + ";person r plain aaa;person s plain aaa;person t plain aaa";

    private NeighboursTest() {
    }

    public static void main(String[] args) {
        nobody();
        one();
        three();
        likeOnes();
        theFirstOne();
        refusals();
        Check.end("NeighboursTest");
    }

    private static void asks(String asks, int set, long upper, long lower, long allUpper, long allLower) {
        MirrorHour x = Check.town(FIVE + asks);
        Check.due("ask(0)" + asks, x.ask(0), set);
        Check.due("truth(0, false)" + asks, x.truth(0, false), upper);
        Check.due("truth(0, true)" + asks, x.truth(0, true), lower);
        Check.due("allTell(0, false)" + asks, x.allTell(0, false), allUpper);
        Check.due("allTell(0, true)" + asks, x.allTell(0, true), allLower);
        Check.due("trouble()", x.trouble(), 0);
    }

    private static void nobody() {
        asks("", 0, 0, 1, 1, 1);
        asks(";asks q p odds 90", 0, 0, 1, 1, 1);
    }

    private static void one() {
        asks(";asks p t odds 35", 16, 7, 20, 7, 20);
        asks(";asks p t odds 0", 16, 0, 1, 0, 1);
        asks(";asks p t odds 100", 16, 1, 1, 1, 1);
        // two are no odd number: the likelier alone
        asks(";asks p q odds 60;asks p r odds 70", 4, 7, 10, 21, 50);
    }

    private static void three() {
        // 3 * 0.8 * 0.8 * 0.2 + 0.8 ** 3 = 0.896
        asks(";asks p q odds 80;asks p r odds 80;asks p s odds 80", 14, 112, 125, 64, 125);
        // of four the best three: q isn't asked
        asks(";asks p q odds 10;asks p r odds 80;asks p s odds 80;asks p t odds 80", 28, 112, 125, 32, 625);
        asks(";asks p q odds 99;asks p r odds 99;asks p s odds 99;asks p t odds 99", 14, 499851, 500000, 96059601, 100000000);
        // one is surer than three
        asks(";asks p q odds 95;asks p r odds 55;asks p s odds 55", 2, 19, 20, 2299, 8000);
    }

    private static void likeOnes() {
        asks(";asks p s odds 70;asks p r odds 70", 4, 7, 10, 49, 100);
        // one sure one is as good as any set with two of them: fewest
        asks(";asks p q odds 50;asks p r odds 100;asks p s odds 100", 4, 1, 1, 1, 2);
        asks(";asks p q odds 0;asks p r odds 0;asks p s odds 0;asks p t odds 0", 2, 0, 1, 0, 1);
        // three of 50 are as likely as one: fewest
        asks(";asks p r odds 50;asks p s odds 50;asks p t odds 50", 4, 1, 2, 1, 8);
    }

    private static void theFirstOne() {
        MirrorHour x = Check.town(FIVE + ";asks t p odds 60;asks q p odds 80;asks q r odds 80;asks q t odds 80"
            + ";asks s t odds 1;asks s q odds 1;asks s r odds 1;asks s p odds 1");
        Check.due("ask(4) of the first person alone", x.ask(4), 1);
        Check.due("truth(4, false)", x.truth(4, false), 3);
        Check.due("allTell(4, true)", x.allTell(4, true), 5);
        Check.due("ask(1) with the first and the last", x.ask(1), 1 + 4 + 16);
        Check.due("truth(1, false)", x.truth(1, false), 112);
        Check.due("allTell(1, false)", x.allTell(1, false), 64);
        Check.due("ask(3): of four like ones the first", x.ask(3), 1);
        Check.due("allTell(3, false)", x.allTell(3, false), 1);
        Check.due("allTell(3, true) of four at 1 of 100", x.allTell(3, true), 100_000_000);
        Check.due("ask(0) of who asks nobody", x.ask(0), 0);
    }

    private static void refusals() {
        MirrorHour x = Check.town(FIVE + ";asks p q odds 80");
        Check.refused(x, "ask(5)", x.ask(5), 1);
        Check.refused(x, "ask(-1)", x.ask(-1), 1);
        Check.refused(x, "truth(5, true)", x.truth(5, true), 1);
        Check.refused(x, "truth(-1, false)", x.truth(-1, false), 1);
        Check.refused(x, "allTell(5, true)", x.allTell(5, true), 1);
        Check.refused(x, "allTell(max, false)", x.allTell(Integer.MAX_VALUE, false), 1);
    }
}
