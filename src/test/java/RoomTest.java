import java.lang.management.ManagementFactory;
import java.util.Random;

/** All calls of a run live in one room: the dearest ones make no rows, and no arguments make one throw. */
public final class RoomTest {
    private static final Check C = new Check("RoomTest");
    private static final com.sun.management.ThreadMXBean BEAN =
        (com.sun.management.ThreadMXBean) ManagementFactory.getThreadMXBean();
    private static final int[] ODD = {Integer.MIN_VALUE, -101, -100, -1, 0, 1, 2, 3, 7, 8, 9, 10, 20, 21, 31, 99, 100,
        101, 300, 301, 9999, 10000, Integer.MAX_VALUE};
    private static final long[] ODD_LONGS = {Long.MIN_VALUE, -1, 0, 1, 10, 1000, Check.MOST - 1, Check.MOST,
        Check.MOST + 1, Long.MAX_VALUE};

    public static void main(String[] args) {
        rowsAreUsedAgain();
        constructorsFit();
        textsFit();
        oddArguments();
        C.end();
    }

    private static long allocated() {
        return BEAN.getThreadAllocatedBytes(Thread.currentThread().getId());
    }

    private static MeltingMarks full() {
        MeltingMarks x = new MeltingMarks();
        for (int i = 0; i < 10; i++) {
            x.person(1000000 * i, 3 * i, i % 3);
        }
        for (int i = 0; i < 24; i++) {
            int by = i % 10;
            x.paper(i % 2 == 0 ? 4 : 1, i % 2 == 0 ? by : 100 * by + (by + 3) % 10, 10 * i + 1, 300);
        }
        Check.tell(x, 0, "debt sum*price/first+(sum*price/first+(sum*1-(age+age*1)));rent sum;"
            + "wage (sum+late-(week*age/first+age+(sum+late-week*age)));");
        x.force(0, 0, 0);
        return x;
    }

    private static void rowsAreUsedAgain() {
        MeltingMarks x = full();
        x.image();
        x.choices(8, 0);
        long before = allocated();
        for (int i = 0; i < 60; i++) {
            x.choices(8, i % 3);
            x.need(30);
            x.melts(30);
            x.beside(1, 1000, 30);
            x.unlike();
            x.restore();
            x.days(1);
        }
        long took = allocated() - before;
        C.holds("no rows: " + took, took < 4096);
    }

    /** 512 of them at most in a run of 7300000 fields: some 14000 each, 8 bytes at most. */
    private static void constructorsFit() {
        new MeltingMarks();
        long before = allocated();
        MeltingMarks x = new MeltingMarks();
        long took = allocated() - before;
        C.holds("a new object takes " + took, took < 64000 && x.count(0) == 0);
    }

    private static void textsFit() {
        MeltingMarks x = new MeltingMarks();
        Check.tell(x, 0, "debt 1;rent 0;wage 0;");
        Check.feedAll(x, "debt 1+1+1+1+1+1+1+1+1+1+1+1+1+1+1+1+1+1+1+1+1+1+1+1+1+1+1+1+1+1+1+1+1+1+1+1;rent 0;wage 0;");
        long before = allocated();
        long answer = x.text(0);
        long took = allocated() - before;
        C.holds("a text takes " + took, answer == -1 && took < 1000);
    }

    private static void oddArguments() {
        Random random = new Random(5);
        for (int run = 0; run < 300; run++) {
            MeltingMarks x = run % 3 == 0 ? new MeltingMarks() : full();
            for (int call = 0; call < 390; call++) {
                int a = ODD[random.nextInt(ODD.length)];
                int b = ODD[random.nextInt(ODD.length)];
                int c = ODD[random.nextInt(ODD.length)];
                long v = ODD_LONGS[random.nextInt(ODD_LONGS.length)];
                if (call % 2 == 0) {
                    money(x, random.nextInt(18), a, b, c, v);
                } else {
                    rest(x, random.nextInt(17), a, b, c, v);
                }
            }
            C.holds("all marks within the most", withinBounds(x));
        }
    }

    private static void money(MeltingMarks x, int which, int a, int b, int c, long v) {
        switch (which) {
            case 0: x.person(v, a, b); break;
            case 1: x.habit(a, b, c); break;
            case 2: x.personIs(a, b); break;
            case 3: x.gain(a, v > 0); break;
            case 4: x.paper(a, b, v, c); break;
            case 5: x.as(a, b); break;
            case 6: x.paperIs(a, b); break;
            case 7: x.owed(a, b); break;
            case 8: x.pay(a); break;
            case 9: x.tear(a); break;
            case 10: x.thin(); break;
            case 11: x.price(a); break;
            case 12: x.index(a, b); break;
            case 13: x.press(v); break;
            case 14: x.give(a, v); break;
            case 15: x.tax(); break;
            case 16: x.swap(a); break;
            default: x.days(a); break;
        }
    }

    private static void rest(MeltingMarks x, int which, int a, int b, int c, long v) {
        switch (which) {
            case 0: x.feed(a, v); break;
            case 1: x.text(a); break;
            case 2: x.force(a, b, c); break;
            case 3: x.law(a, b); break;
            case 4: x.unlike(); break;
            case 5: x.need(a); break;
            case 6: x.melts(a); break;
            case 7: x.choices(Math.min(a, 3), b); break;
            case 8: x.proves(a, b); break;
            case 9: x.beside(a, v, b); break;
            case 10: x.sheet(a, b, c); break;
            case 11: x.put(a, b, c); break;
            case 12: x.copy(a, b, c, a, b); break;
            case 13: x.copy(a, b, a, c, c); break;
            case 14: x.image(); break;
            case 15: x.restore(); break;
            default: x.count(a); break;
        }
    }

    private static boolean withinBounds(MeltingMarks x) {
        for (int i = 0; i < x.count(0); i++) {
            long marks = x.personIs(i, 0);
            long loaves = x.personIs(i, 1);
            if (marks < 0 || marks > Check.MOST || loaves < 0 || loaves > 9999) {
                return false;
            }
        }
        return x.count(4) >= 0 && x.count(4) <= Check.MOST && x.count(7) >= 0;
    }
}
