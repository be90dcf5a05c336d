import java.util.ArrayList;
import java.util.List;

/** Objects in a known state, each made by the same calls again, and all that can be asked of one. */
enum Scene {
    /** Nothing was called yet. */
    NEW,
    /** DAY 3: 4 persons, papers of all kinds and states, laws of both courts, sheets, a tape begun, an image. */
    RICH,
    /** All 10 persons. */
    PERSONS,
    /** All 24 papers, of 2 persons. */
    PAPERS,
    /** All 12 laws, from text 0; text 1 was never told. */
    LAWS,
    /** 157 bytes of 160 on the tape. */
    TAPE,
    /** DAY 270. */
    LATE,
    /** DAY 299. */
    EVE,
    /** DAY 300. */
    END;

    /** The papers of RICH by number. */
    static final int PAPER = 0;
    static final int DEBT = 1;
    static final int GOLD = 2;
    static final int RENT = 3;
    static final int WAGE = 4;
    static final int TOWN = 5;
    static final int VOID_RENT = 6;
    static final int PAID_PAPER = 7;
    static final int VOID_DEBT = 8;
    static final int TOO_MUCH = 9;
    static final int NEXT = 10;

    MeltingMarks make() {
        MeltingMarks x = new MeltingMarks();
        switch (this) {
            case NEW: break;
            case RICH: rich(x); break;
            case PERSONS: persons(x); break;
            case PAPERS: papers(x); break;
            case LAWS: laws(x); break;
            case TAPE: tape(x); break;
            case LATE: upTo(x, 270); break;
            case EVE: upTo(x, 299); break;
            default: upTo(x, 300); break;
        }
        return x;
    }

    private static void rich(MeltingMarks x) {
        x.person(1000, 20, 3);
        x.person(500, 2, 0);
        x.person(50, 9, 2);
        x.person(0, 0, 0);
        x.habit(1, 0, 7);
        x.habit(2, 1, 30);
        Check.tell(x, 0, "debt sum*price;rent sum;wage sum+age;");
        x.force(0, 0, 0);
        Check.tell(x, 1, "debt sum+1;rent sum;wage sum;");
        x.force(1, 1, 2);
        x.paper(0, 1, 40, 9);
        x.paper(1, 1, 60, 9);
        x.paper(2, 100, 5, 9);
        x.paper(3, 201, 7, 12);
        x.paper(4, 1, 30, 8);
        x.paper(5, 2, 300, 100);
        x.press(700);
        x.image();
        x.paper(3, 1, 999999, 30);
        x.paper(0, 1, 10, 3);
        x.paper(1, 302, 77, 3);
        x.paper(5, 300, 77, 3);
        x.tear(VOID_RENT);
        x.pay(PAID_PAPER);
        x.tear(VOID_DEBT);
        x.days(3);
        x.sheet(0, 8, 5);
        x.put(0, 3, 2);
        x.sheet(1, 16, 3);
        x.put(1, 1, 1);
        x.sheet(2, 32, 20);
        x.put(2, 19, 7);
        Check.feedAll(x, "debt 5;rent");
        x.person(-1, 0, 0);
        x.days(31);
    }

    private static void persons(MeltingMarks x) {
        for (int i = 0; i < 10; i++) {
            x.person(10 * i, i, 1);
        }
    }

    private static void papers(MeltingMarks x) {
        x.person(100, 9, 1);
        x.person(100, 9, 1);
        x.image();
        for (int i = 0; i < 24; i++) {
            x.paper(i % 6, 1, 5 + i, 9);
        }
        x.tear(0);
        x.pay(2);
    }

    private static void laws(MeltingMarks x) {
        x.person(100, 9, 1);
        x.person(100, 9, 1);
        x.paper(1, 1, 50, 9);
        Check.tell(x, 0, "debt sum+price;rent 1;wage 2;");
        for (int i = 0; i < 12; i++) {
            x.force(0, i % 2, 20 * i);
        }
    }

    private static void tape(MeltingMarks x) {
        x.person(100, 9, 1);
        Check.feedAll(x, "debt 5;rent" + " ".repeat(146));
    }

    /** One who bakes and one who hungers; no law ever. */
    private static void upTo(MeltingMarks x, int day) {
        x.person(100, 5, 1);
        x.person(100, 0, 0);
        x.sheet(0, 8, 1);
        x.sheet(1, 8, 20);
        x.sheet(2, 8, 0);
        for (int at = 0; at < day; at += 30) {
            x.days(Math.min(30, day - at));
        }
    }

    /** All that can be asked of an object but count(9), at the price of its state: it is of no use then. */
    static List<Long> allOf(MeltingMarks x) {
        List<Long> told = new ArrayList<>();
        state(x, told);
        sheets(x, told);
        tapeAndTexts(x, told);
        told.add(x.restore());
        state(x, told);
        return told;
    }

    /** What an IMAGE has, as far as it can be asked without a change (but for count(9)). */
    static List<Long> stateOf(MeltingMarks x) {
        List<Long> told = new ArrayList<>();
        state(x, told);
        return told;
    }

    private static void state(MeltingMarks x, List<Long> told) {
        for (int what = 0; what < 9; what++) {
            told.add(x.count(what));
        }
        for (int i = 0; i < x.count(0); i++) {
            for (int what = 0; what < 8; what++) {
                told.add(x.personIs(i, what));
            }
            told.add(x.gain(i, false));
            told.add(x.gain(i, true));
        }
        long papers = x.count(1);
        for (int i = 0; i < papers; i++) {
            for (int what = 0; what < 7; what++) {
                told.add(x.paperIs(i, what));
            }
            if (papers < 20 && x.paperIs(i, 6) == 0) {
                told.add(x.owed(i, 0));
                told.add(x.owed(i, 1));
            }
        }
        int day = (int) x.count(3);
        for (int d = Math.max(0, day - 6); d <= day; d++) {
            told.add(x.price(d));
        }
        for (int d : new int[] {0, 2, 100, 300}) {
            told.add(x.law(0, d));
            told.add(x.law(1, d));
        }
        told.add(x.thin());
        told.add(x.unlike());
    }

    /** How many numbers, of how many bits, and which of them are neither 0 nor 1. */
    private static void sheets(MeltingMarks x, List<Long> told) {
        for (int s = 0; s < 4; s++) {
            for (int n : new int[] {1, 2, 3, 4, 5, 6, 19, 20}) {
                told.add(x.copy(s, 0, s, 0, n));
            }
            long place = x.proves(9999, s);
            for (int i = 0; i < 4 && place >= 0 && x.put(s, (int) place, 0) == 0; i++) {
                told.add(place);
                place = x.proves(9999, s);
            }
            told.add(place);
            for (int v : new int[] {256, 65536}) {
                x.put(s, 0, v);
                told.add(x.proves(9999, s));
            }
        }
    }

    /** The tape is read to its end as text 4; each text is told by a law of court 1 for paper 1, if there is room. */
    private static void tapeAndTexts(MeltingMarks x, List<Long> told) {
        told.add(x.feed(1, ' '));
        told.add(x.feed(2, '6' | ';' << 8));
        told.add(Check.feedAll(x, "wage 7;"));
        told.add(x.text(4));
        int day = (int) x.count(3);
        for (int t = 0; t < 5; t++) {
            told.add(x.force(t, 1, day));
            told.add(x.owed(DEBT, 1));
        }
    }
}
