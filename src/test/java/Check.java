/** What the tests share: due answers, findings by name, and texts fed as bytes. */
final class Check {
    static final long BEYOND = -100001;
    static final long MISSING = -100002;
    static final long SIZE = -100003;
    static final long KIND = -100004;
    static final long FULL = -100005;
    static final long NONE = -100006;
    static final long LOW = -100008;
    static final long MOST = 1000000000000000L;

    private final String name;
    private int asked;
    private int wrong;

    Check(String name) {
        this.name = name;
    }

    synchronized void due(String call, long got, long want) {
        asked++;
        if (got != want) {
            wrong++;
            System.out.println(name + ": " + call + " answered " + got + ", due is " + want);
        }
    }

    void holds(String what, boolean so) {
        due(what, so ? 1 : 0, 1);
    }

    void end() {
        System.out.println(name + ": " + asked + " asked, " + wrong + " wrong");
        if (wrong != 0 || asked == 0) {
            System.exit(1);
        }
    }

    /** Feeds a text of characters 0 to 255: what the last feed answered (0 if it is empty). */
    static long feedAll(MeltingMarks x, String text) {
        long last = 0;
        for (int from = 0; from < text.length(); from += 8) {
            int n = Math.min(8, text.length() - from);
            long bytes = 0;
            for (int i = 0; i < n; i++) {
                bytes |= (long) (text.charAt(from + i) & 255) << (8 * i);
            }
            last = x.feed(n, bytes);
        }
        return last;
    }

    static long tell(MeltingMarks x, int t, String text) {
        feedAll(x, text);
        return x.text(t);
    }

    /**
     * Two persons whose prices are at will: 0 spends all and always offers one loaf, 1 has nothing.
     * PRICE of each day is then what person 0 has as the day ahead of it goes by.
     */
    static MeltingMarks ofPrices(long... prices) {
        MeltingMarks x = new MeltingMarks();
        x.person(0, 1, 1);
        x.person(0, 0, 0);
        x.habit(0, 0, 10);
        x.habit(1, 0, 0);
        goOn(x, prices);
        return x;
    }

    /** One day more for each price, none lower than the one ahead of it. */
    static void goOn(MeltingMarks x, long... prices) {
        for (long price : prices) {
            long lack = price - x.personIs(0, 0);
            if (lack > 0) {
                x.press(lack);
                x.give(0, lack);
            }
            x.days(1);
        }
    }
}
