/** What the tests share: counting wrong answers, and telling an object a town. */
final class Check {
    private static int wrong = 0;
    private static int asked = 0;

    private Check() {
    }

    static void due(String call, long got, long want) {
        asked++;
        if (got != want) {
            wrong++;
            if (wrong <= 40) {
                System.out.println(call + " answered " + got + ", due is " + want);
            }
        }
    }

    static void due(String call, boolean got, boolean want) {
        due(call, got ? 1 : 0, want ? 1 : 0);
    }

    /** A call that is refused: its answer, then the number that trouble() tells. */
    static void refused(MirrorHour x, String call, long got, int trouble) {
        due(call, got, -1);
        due("trouble() of " + call, x.trouble(), trouble);
    }

    static void refused(MirrorHour x, String call, boolean got, int trouble) {
        due(call, got, false);
        due("trouble() of " + call, x.trouble(), trouble);
    }

    static void led(MirrorHour x, int i, int want) {
        int got;
        try {
            got = x.led(i);
        } catch (java.util.NoSuchElementException e) {
            got = -99;
        }
        due("led(" + i + ")", got, want);
    }

    static void ledThrows(MirrorHour x, int i) {
        led(x, i, -99);
    }

    /** Feeds a text, filled up with blanks; its length. */
    static int feed(MirrorHour x, String text) {
        StringBuilder bytes = new StringBuilder(text);
        while (bytes.length() % 20 != 0) {
            bytes.append(' ');
        }
        for (int i = 0; i < bytes.length(); i += 20) {
            x.feed(four(bytes, i), four(bytes, i + 4), four(bytes, i + 8), four(bytes, i + 12), four(bytes, i + 16));
        }
        return text.length();
    }

    private static int four(StringBuilder bytes, int i) {
        int number = 0;
        for (int k = 0; k < 4; k++) {
            number = number << 8 | bytes.charAt(i + k) & 255;
        }
        return number;
    }

    static MirrorHour town(String text) {
        MirrorHour x = new MirrorHour();
        int people = x.town(feed(x, text));
        if (people < 1) {
            due("town of " + text + " (fault " + x.fault() + " at " + x.where() + ")", people, 1);
        }
        return x;
    }

    /** Every test's main ends with this. */
    static void end(String test) {
        System.out.println(test + ": " + asked + " answers looked at, " + wrong + " wrong");
        if (wrong != 0) {
            System.exit(1);
        }
    }
}
