/** Promises 38 and 39: months by draws. */
public final class MonthsTest {
    private static final String ONE = "town marks 4 within 0 late 0 shut 6;person p plain aaaa";

    private MonthsTest() {
    }

    public static void main(String[] args) {
        byHand();
        visits();
        seedGoesOn();
        refusals();
        Check.end("MonthsTest");
    }

    /** How many days the look of a single one differs from the one told, by draws done by hand. */
    private static int daysUnlike(int seed, int marks) {
        int[] letters = new int[marks];
        int days = 0;
        long s = seed;
        for (int day = 0; day < 30; day++) {
            s = (75 * s + 74) % 65537;
            s = (75 * s + 74) % 65537;
            letters[(int) (s % marks)]++;
            boolean unlike = false;
            for (int letter : letters) {
                unlike |= letter % 4 != 0;
            }
            days += unlike ? 1 : 0;
        }
        return days;
    }

    private static void byHand() {
        MirrorHour x = Check.town(ONE);
        for (int seed : new int[] {0, 1, 4711, 65535, 65536}) {
            Check.due("month(" + seed + ")", x.month(seed), daysUnlike(seed, 4));
            Check.due("lost(0, " + seed + ", 1)", x.lost(0, seed, 1), daysUnlike(seed, 4));
        }
        Check.due("a month leaves the looks as they are", x.knows(29), 1);
        // seed 0: 74, then 5624; 5624 mod 3 is 2. Within 2 of three marks it takes a while to be lost
        MirrorHour y = Check.town("town marks 3 within 0 late 0 shut 6;person p plain aaa;person q plain aaa");
        Check.due("month(0): the first draw takes p", y.month(0), 30);
        Check.due("the look as NOW", y.look(0, 0, 2), 0);
    }

    private static void visits() {
        // he who looks into the mirror each day that it's open, which shows at once, is lost on shut days at most
        MirrorHour x = Check.town("town marks 3 within 0 late 0 shut 6;person p plain aaa");
        int shutDays = 0;
        for (int day = 0; day < 30; day++) {
            shutDays += x.book(0, day) ? 0 : 1;
        }
        Check.due("shut days", shutDays, 4);
        Check.due("month(5) with a visit each day", x.month(5), 4);
        Check.due("lost(0, 5, 20)", x.lost(0, 5, 20), 80);
        x.shock(0, 0, 1);
        Check.due("month(5) after a shock", x.month(5), 4);
    }

    private static void seedGoesOn() {
        MirrorHour x = Check.town("town marks 3 within 1 late 0 shut 6;person p plain aaa;person q vain baa");
        int seed = 12345;
        int sum = 0;
        long s = seed;
        for (int month = 0; month < 20; month++) {
            sum += x.lost(1, (int) s, 1);
            for (int draw = 0; draw < 60; draw++) {
                s = (75 * s + 74) % 65537;
            }
            Check.due("lost(1, seed, " + (month + 1) + ")", x.lost(1, seed, month + 1), sum);
        }
    }

    private static void refusals() {
        MirrorHour x = Check.town(ONE);
        Check.refused(x, "month(65537)", x.month(65537), 2);
        Check.refused(x, "month(-1)", x.month(-1), 2);
        Check.refused(x, "lost(1, 0, 1)", x.lost(1, 0, 1), 1);
        Check.refused(x, "lost(-1, -1, 1)", x.lost(-1, -1, 1), 1);
        Check.refused(x, "lost(0, 65537, 1)", x.lost(0, 65537, 1), 2);
        Check.refused(x, "lost(0, -1, 1)", x.lost(0, -1, 1), 2);
        Check.refused(x, "lost(0, 0, 0)", x.lost(0, 0, 0), 2);
        Check.refused(x, "lost(0, 0, 21)", x.lost(0, 0, 21), 2);
        x.lost(0, 65536, 20);
        Check.due("trouble()", x.trouble(), 0);
        MirrorHour none = new MirrorHour();
        Check.refused(none, "month", none.month(0), 1);
    }
}
