/** Objects in a known state, each made by the same calls again. */
enum Scene {
    /** Nothing was called yet. */
    NEW,
    /** DAY 3: 4 persons, papers of all kinds and states, laws of both courts, sheets, a tape begun, an image. */
    RICH,
    /** DAY 5: no two things alike, if it can be helped: laws still to come, texts told anew, another image. */
    LIVELY,
    /** As LIVELY, but without an image, and with another tape and other sheets. */
    BARE,
    /** All 10 persons. */
    PERSONS,
    /** All 24 papers, of 2 persons. */
    PAPERS,
    /** All 12 laws, from text 0; text 1 was never told. */
    LAWS,
    /** 157 bytes of 160 on the tape. */
    TAPE,
    /** DAY 270. */
    LATE,
    /** DAY 299. */
    EVE,
    /** DAY 300. */
    END;

    /** The papers of RICH by number. */
    static final int PAPER = 0;
    static final int DEBT = 1;
    static final int GOLD = 2;
    static final int RENT = 3;
    static final int WAGE = 4;
    static final int TOWN = 5;
    static final int VOID_RENT = 6;
    static final int PAID_PAPER = 7;
    static final int VOID_DEBT = 8;
    static final int TOO_MUCH = 9;
    static final int NEXT = 10;

    /** The papers of LIVELY and BARE by number. */
    static final int LIVELY_PAID = 0;
    static final int LIVELY_PAPER = 3;
    static final int LIVELY_DEBT = 4;
    static final int LIVELY_GOLD = 5;
    static final int LIVELY_RENT = 6;
    static final int LIVELY_WAGE = 7;
    static final int LIVELY_TOWN = 8;
    static final int LIVELY_VOID = 9;
    static final int LIVELY_LAST = 10;

    MeltingMarks make() {
        MeltingMarks x = new MeltingMarks();
        switch (this) {
            case NEW: break;
            case RICH: rich(x); break;
            case LIVELY: lively(x, true); break;
            case BARE: lively(x, false); break;
            case PERSONS: persons(x); break;
            case PAPERS: papers(x); break;
            case LAWS: laws(x); break;
            case TAPE: tape(x); break;
            case LATE: upTo(x, 270); break;
            case EVE: upTo(x, 299); break;
            default: upTo(x, 300); break;
        }
        return x;
    }

    private static void rich(MeltingMarks x) {
        x.person(1000, 20, 3);
        x.person(500, 2, 0);
        x.person(50, 9, 2);
        x.person(0, 0, 0);
        x.habit(1, 0, 7);
        x.habit(2, 1, 30);
        Check.tell(x, 0, "debt sum*price;rent sum;wage sum+age;");
        x.force(0, 0, 0);
        Check.tell(x, 1, "debt sum+1;rent sum;wage sum;");
        x.force(1, 1, 2);
        x.paper(0, 1, 40, 9);
        x.paper(1, 1, 60, 9);
        x.paper(2, 100, 5, 9);
        x.paper(3, 201, 7, 12);
        x.paper(4, 1, 30, 8);
        x.paper(5, 2, 300, 100);
        x.press(700);
        x.image();
        x.paper(3, 1, 999999, 30);
        x.paper(0, 1, 10, 3);
        x.paper(1, 302, 77, 3);
        x.paper(5, 300, 77, 3);
        x.tear(VOID_RENT);
        x.pay(PAID_PAPER);
        x.tear(VOID_DEBT);
        x.days(3);
        x.sheet(0, 8, 5);
        x.put(0, 3, 2);
        x.sheet(1, 16, 3);
        x.put(1, 1, 1);
        x.sheet(2, 32, 20);
        x.put(2, 18, 7);
        x.put(2, 19, 1);
        Check.feedAll(x, "debt 5;rent");
        x.person(-1, 0, 0);
        x.days(31);
    }

    private static void lively(MeltingMarks x, boolean full) {
        x.person(1000, 20, 3);
        x.person(500, 2, 0);
        x.person(50, 9, 2);
        x.person(3, 0, 0);
        x.habit(1, 0, 7);
        x.habit(2, 1, 30);
        x.press(Check.MOST);
        x.press(12);
        x.give(0, 400);
        Check.tell(x, 0, "debt sum*price;rent sum+1;wage sum+age;");
        x.force(0, 1, 2);
        Check.tell(x, 1, "debt sum+1;rent sum;wage sum+2;");
        x.force(1, 0, 1);
        Check.tell(x, 0, "debt sum+age+2;rent 3;wage 4;");
        Check.tell(x, 3, "debt 31;rent 32;wage 33;");
        x.paper(1, 1, 20, 300);
        x.paper(2, 102, 30, 300);
        x.paper(1, 203, 50, 300);
        x.days(1);
        x.pay(0);
        x.paper(0, 1, 40, 9);
        x.paper(1, 1, 60, 8);
        x.paper(2, 100, 5, 30);
        x.paper(3, 201, 7, 12);
        x.paper(4, 3, 9, 8);
        x.paper(5, 203, 900, 100);
        if (full) {
            x.image();
            x.sheet(0, 8, 5);
            x.put(0, 1, 1);
            x.put(0, 3, 2);
            x.sheet(1, 16, 3);
            x.put(1, 0, 1);
            x.put(1, 2, 256);
            x.sheet(2, 32, 20);
            x.put(2, 7, 7);
            x.put(2, 18, 1);
        } else {
            x.sheet(0, 8, 5);
            x.put(0, 1, 1);
            x.sheet(1, 16, 3);
            x.put(1, 1, 1);
            x.sheet(2, 32, 20);
            x.put(2, 19, 1);
            x.sheet(3, 16, 4);
            x.put(3, 2, 1);
        }
        x.habit(3, 2, 1);
        x.days(3);
        x.habit(0, 0, 6);
        x.force(3, 0, 7);
        x.force(3, 1, 6);
        Check.tell(x, 2, "debt 21;rent 22;wage 23;");
        x.give(1, 900);
        x.pay(1);
        x.pay(2);
        x.paper(1, 301, 15, 200);
        x.tear(9);
        x.paper(1, 2, 16, 200);
        x.days(1);
        if (full) {
            Check.feedAll(x, "debt 5;rent");
            x.person(-1, 0, 0);
            x.days(31);
        } else {
            Check.feedAll(x, "debt 5;");
            x.days(0);
        }
    }

    private static void persons(MeltingMarks x) {
        x.person(0, 0, 1);
        x.person(10, 1, 1);
        x.person(20, 2, 1);
        x.paper(0, 1, 12, 9);
        x.paper(1, 201, 7, 9);
        textsAndLaws(x);
        allElse(x);
        for (int i = 3; i < 10; i++) {
            x.person(10 * i, i, 1);
        }
        tapeAndFindings(x);
    }

    private static void papers(MeltingMarks x) {
        x.person(100, 9, 1);
        x.person(100, 9, 1);
        textsAndLaws(x);
        allElse(x);
        for (int i = 0; i < 24; i++) {
            x.paper(i % 6, 1, 5 + i, 9);
        }
        x.tear(0);
        x.pay(2);
        tapeAndFindings(x);
    }

    private static void laws(MeltingMarks x) {
        x.person(100, 9, 1);
        x.person(100, 9, 1);
        x.paper(1, 1, 50, 9);
        x.paper(0, 1, 6, 9);
        Check.tell(x, 0, "debt sum+price;rent 1;wage 2;");
        allElse(x);
        for (int i = 0; i < 12; i++) {
            x.force(0, i % 2, 20 * i);
        }
        tapeAndFindings(x);
    }

    private static void tape(MeltingMarks x) {
        x.person(100, 9, 1);
        x.person(90, 8, 2);
        x.paper(1, 1, 50, 9);
        x.paper(3, 100, 6, 9);
        textsAndLaws(x);
        allElse(x);
        Check.feedAll(x, "debt 5;rent" + " ".repeat(146));
    }

    /** One who bakes and one who hungers, papers that wait. */
    private static void upTo(MeltingMarks x, int day) {
        x.person(100, 5, 1);
        x.person(100, 0, 0);
        x.paper(0, 1, 30, 300);
        x.paper(1, 1, 20, 300);
        x.paper(5, 100, 9, 300);
        textsAndLaws(x);
        allElse(x);
        x.sheet(0, 8, 1);
        x.sheet(1, 8, 20);
        x.put(1, 3, 1);
        x.put(1, 19, 1);
        x.sheet(2, 8, 0);
        x.sheet(3, 0, 0);
        for (int at = 0; at < day; at += 30) {
            x.days(Math.min(30, day - at));
        }
        tapeAndFindings(x);
    }

    /** Both courts have the same text, from different days on. */
    private static void textsAndLaws(MeltingMarks x) {
        Check.tell(x, 1, "debt sum+7;rent sum+8;wage sum+9;");
        x.force(1, 1, 0);
        x.force(1, 0, 0);
        Check.tell(x, 0, "debt 1;rent 2;wage 3;");
    }

    /** What an act that is refused might spoil: a state that has something, an image, sheets. */
    private static void allElse(MeltingMarks x) {
        x.press(5000);
        x.image();
        x.press(77);
        x.sheet(0, 8, 5);
        x.put(0, 1, 1);
        x.put(0, 3, 2);
        x.sheet(1, 16, 3);
        x.put(1, 1, 1);
        x.sheet(2, 32, 20);
        x.put(2, 7, 7);
        x.put(2, 19, 1);
        x.sheet(3, 32, 2);
    }

    private static void tapeAndFindings(MeltingMarks x) {
        Check.feedAll(x, "debt 5;rent");
        x.person(-1, 0, 0);
        x.days(31);
    }
}
