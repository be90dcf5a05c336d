import java.util.Map;

/** The sentences of 'Terms' that name a bound, each by the last value on either side of it. */
public final class TermsTest {
    private static final Check C = new Check("TermsTest");
    private static final long MOST = Check.MOST;

    public static void main(String[] args) {
        belowZeroIsNoFinding();
        firstValues();
        loavesAtMost();
        newPapers();
        wages();
        asks();
        offers();
        keepOnDayOne();
        keptBackLeavesOthers();
        whoKeepsBackAsks();
        priceAtMost();
        nobodyOffers();
        soldOut();
        room();
        soldAndBoughtEver();
        eating();
        dueDays();
        allOrOpen();
        marketAheadOfDebts();
        debtsByThePriceOfTheDay();
        rentDays();
        byCourtZero();
        burntByTrade();
        burntByPapers();
        burntByActs();
        burntByTax();
        gainIsCutTwice();
        gainOfWhom();
        thinBits();
        taxTenths();
        theNew();
        theNewBurns();
        theNewOfPapers();
        index();
        aheadByLawsToCome();
        meltsByTheDayAhead();
        hungerOfTheseDays();
        hungerAheadOfPrice();
        numbersByDays();
        besideBurns();
        taxAheadOfTheDay();
        lowestBits();
        imageOfAll();
        C.end();
    }

    /** Persons who neither spend nor have loaves. */
    private static MeltingMarks idle(long... marks) {
        MeltingMarks x = new MeltingMarks();
        for (int i = 0; i < marks.length; i++) {
            x.person(marks[i], 0, 0);
            x.habit(i, 0, 0);
        }
        return x;
    }

    /** Person 0 sells loaves and has nothing else, the ones behind it spend all they have. */
    private static MeltingMarks market(int loaves, long... marks) {
        MeltingMarks x = new MeltingMarks();
        x.person(0, loaves, 0);
        for (int i = 0; i < marks.length; i++) {
            x.person(marks[i], 0, 0);
            x.habit(i + 1, 0, 10);
        }
        return x;
    }

    // "Where an answer may be below 0 otherwise, it is no finding."
    private static void belowZeroIsNoFinding() {
        for (int finding = -100008; finding <= -100001; finding++) {
            MeltingMarks x = idle(MOST, 0);
            Check.tell(x, 0, "debt sum+" + -finding + ";rent 0;wage 0;");
            C.due("law", x.force(0, 0, 0), 0);
            x.paper(1, 1, 1, 0);
            C.due("pay", x.pay(0), 1 - finding);
            C.due("gain as low as a finding", x.gain(0, false), finding);
            C.due("loss as low as a finding", x.gain(1, true), finding);
            C.due("no finding", x.count(9), 0);
        }
    }

    // Term 1: "SPEND .. 5 at first", "KEEP .. 1000 at first", "PRICE of DAY 0 is told at first (1)", "THE STATE .. 0 at first".
    private static void firstValues() {
        MeltingMarks x = new MeltingMarks();
        x.person(7, 8, 9);
        long[] first = {7, 8, 9, 5, 1000, 0, 0, 0};
        for (int what = 0; what < 8; what++) {
            C.due("first of " + what, x.personIs(0, what), first[what]);
        }
        C.due("price(0)", x.price(0), 1);
        C.due("price(1) is not made yet", x.price(1), Check.BEYOND);
        C.due("the state", x.count(4), 0);
        long made = x.days(1);
        C.due("price(1) is made as day 0 goes by", x.price(1), made);
        C.due("price(0) stays", x.price(0), 1);
        C.due("price(2) is not", x.price(2), Check.BEYOND);
    }

    // Term 1: "LOAVES (0 to 9999)", as each BAKES, then eats.
    private static void loavesAtMost() {
        MeltingMarks x = new MeltingMarks();
        x.person(0, 9989, 9);
        x.person(0, 9990, 9);
        x.person(0, 9990, 10);
        x.person(0, 9999, 0);
        x.person(0, 9999, 1);
        long[] then = {9997, 9998, 9998, 9998, 9998};
        x.days(1);
        for (int i = 0; i < 5; i++) {
            C.due("loaves of " + i, x.personIs(i, 1), then[i]);
        }
    }

    // Term 1: "since a DAY, due on a DAY .. It is OPEN"; "BY of a WAGE is THE STATE".
    private static void newPapers() {
        MeltingMarks x = idle(0, 0, 0);
        x.days(7);
        for (int kind = 0; kind < 6; kind++) {
            int who = kind == 4 ? 2 : 102;
            C.due("paper", x.paper(kind, who, 10 + kind, 7 + kind), kind);
            long[] want = {kind, kind == 4 ? -1 : 1, 2, 10 + kind, 7, 7 + kind, 0};
            for (int what = 0; what < 7; what++) {
                C.due("kind " + kind + " is " + what, x.paperIs(kind, what), want[what]);
            }
        }
    }

    // 3 (2): "Of each OPEN WAGE .. THE STATE pays TO what is OWED on the DAY by COURT 0; it PRINTS what it lacks."
    private static void wages() {
        for (int has = 29; has <= 31; has++) {
            MeltingMarks x = idle(0, 0);
            x.press(has);
            x.paper(4, 1, 30, 300);
            x.days(1);
            C.due("the wage", x.personIs(1, 0), 30);
            C.due("printed of " + has, x.count(6), Math.max(30, has));
            C.due("left of " + has, x.count(4), Math.max(0, has - 30));
        }
        MeltingMarks x = idle(0, 0);
        x.press(25);
        x.paper(4, 1, 10, 300);
        x.paper(4, 0, 10, 300);
        x.paper(4, 1, 10, 300);
        x.days(1);
        C.due("together", x.count(6), 30);
        C.due("wages of 1", x.personIs(1, 0), 20);
        C.due("wages of 0", x.personIs(0, 0), 10);
        MeltingMarks y = idle(0);
        y.paper(4, 0, 30, 2);
        y.paper(4, 0, 500, 2);
        y.tear(1);
        y.days(3);
        C.due("on its last day, too", y.personIs(0, 0), 90);
        y.days(1);
        C.due("but not behind it", y.personIs(0, 0), 90);
        MeltingMarks z = idle(0);
        Check.tell(z, 0, "debt 7;rent 8;wage 0-5;");
        z.force(0, 0, 0);
        z.press(9);
        z.paper(4, 0, 30, 2);
        z.days(3);
        C.due("a wage below 0 is none", z.personIs(0, 0), 0);
        C.due("the state keeps what it has", z.count(4), 9);
        MeltingMarks w = idle(0);
        Check.tell(w, 0, "debt 7;rent 8;wage 999999*999999*999999;");
        w.force(0, 0, 0);
        w.press(MOST);
        w.paper(4, 0, 1, 2);
        w.days(1);
        C.due("a wage of the most", w.personIs(0, 0), MOST);
        C.due("all that the state had", w.count(4), 0);
        C.due("nothing more is printed", w.count(6), MOST);
    }

    // 3 (3): "Each PERSON ASKS for MARKS times SPEND by 10": each one's is cut.
    private static void asks() {
        MeltingMarks x = new MeltingMarks();
        x.person(0, 2, 0);
        x.person(19, 0, 0);
        x.person(19, 0, 0);
        C.due("9 and 9", x.days(1), 18);
        for (int spend = 0; spend <= 10; spend++) {
            MeltingMarks y = market(2, 1009);
            y.habit(1, 0, spend);
            C.due("spend " + spend, y.days(1), Math.max(1, 1009 * spend / 10));
        }
        MeltingMarks z = market(2, MOST);
        z.habit(1, 0, 9);
        C.due("most times 9 by 10", z.days(1), MOST / 10 * 9);
        MeltingMarks w = new MeltingMarks();
        w.person(40, 3, 0);
        w.person(10, 0, 0);
        C.due("who OFFERS may ASK, too", w.days(1), 12);
    }

    // 3 (3): "OFFERS its LOAVES but 1".
    private static void offers() {
        long[] price = {1, 1, 60, 30, 20};
        for (int loaves = 0; loaves < 5; loaves++) {
            C.due("offered of " + loaves, market(loaves, 60).days(1), price[loaves]);
        }
        MeltingMarks x = market(4, 60, 0, 0);
        C.due("who has none OFFERS none", x.days(1), 20);
        MeltingMarks y = market(0, 60);
        y.habit(0, 2, 1);
        C.due("one baked: none is OFFERED", y.days(1), 1);
        y.habit(0, 2, 2);
        C.due("two baked: one is", y.days(1), 60);
    }

    // 3 (3): "none, if 100 times PRICE of the DAY is 100 and KEEP, together, times that of the DAY ahead of it, or more".
    private static void keepOnDayOne() {
        int[] keeps = {0, 199, 200, 201, 1000};
        for (int keep : keeps) {
            MeltingMarks x = market(2, 2, 2, 2);
            x.habit(0, 1, keep);
            x.habit(0, 2, 1);
            C.due("not so on day 0", x.days(1), 3);
            x.press(14);
            x.give(1, 14);
            // PRICE went from 1 to 3: that is 200 percent more.
            boolean kept = keep <= 200;
            C.due("price at " + keep, x.days(1), kept ? 3 : 10);
            C.due("sold at " + keep, x.personIs(0, 6), kept ? 0 : 1);
        }
        int[] prices = {10, 11, 12};
        for (int price : prices) {
            MeltingMarks x = market(2, price);
            C.due("from 1 on", x.days(1), price);
            // KEEP is 1000: from 11 times as much on. Nobody ASKS.
            x.habit(0, 0, 0);
            x.habit(0, 2, 2);
            C.due("at " + price, x.days(1), price >= 11 ? price : 1);
        }
    }

    // 3 (3): who keeps back OFFERS none; the others' is not changed by it.
    private static void keptBackLeavesOthers() {
        MeltingMarks x = new MeltingMarks();
        x.person(0, 6, 0);
        x.person(0, 5, 0);
        x.person(30, 0, 0);
        x.habit(0, 1, 0);
        x.habit(2, 0, 0);
        C.due("nothing ASKED", x.days(1), 1);
        x.habit(2, 0, 10);
        C.due("30 by the 3 of person 1", x.days(1), 10);
        C.due("sold 0", x.personIs(0, 6), 0);
        C.due("sold 1", x.personIs(1, 6), 3);
        C.due("bought", x.personIs(2, 7), 3);
    }

    // 3 (3): "Each PERSON ASKS", the one that OFFERS none, too.
    private static void whoKeepsBackAsks() {
        MeltingMarks x = new MeltingMarks();
        x.person(0, 6, 0);
        x.person(70, 8, 0);
        x.habit(1, 0, 0);
        x.habit(1, 1, 0);
        C.due("nothing ASKED", x.days(1), 1);
        x.habit(1, 0, 10);
        // Person 1 keeps its 7 back: 70 by the 4 of person 0.
        C.due("price", x.days(1), 17);
        C.due("bought by who keeps back", x.personIs(1, 7), 4);
        C.due("sold by it", x.personIs(1, 6), 0);
        C.due("marks", x.personIs(1, 0), 2);
    }

    // 3 (3): "1 at least, MOST at most".
    private static void priceAtMost() {
        C.due("below most", market(2, MOST - 1).days(1), MOST - 1);
        C.due("most", market(2, MOST).days(1), MOST);
        MeltingMarks x = market(2, MOST, 10);
        C.due("above most", x.days(1), MOST);
        C.due("bought", x.personIs(1, 7), 1);
        C.due("not bought", x.personIs(2, 7), 0);
        C.due("by all ten", market(2, MOST, MOST, MOST, MOST, MOST, MOST, MOST, MOST, MOST).days(1), MOST);
        C.due("2 of them for 2", market(3, MOST, MOST).days(1), MOST);
        C.due("1 by 2", market(3, 1).days(1), 1);
        C.due("2 by 2", market(3, 2).days(1), 1);
        C.due("3 by 2", market(3, 3).days(1), 1);
        C.due("4 by 2", market(3, 4).days(1), 2);
        C.due("0 by 2", market(3, 0).days(1), 1);
    }

    // 3 (3): "(that of the DAY, if nobody OFFERS)".
    private static void nobodyOffers() {
        MeltingMarks x = market(2, 70);
        C.due("day 1", x.days(1), 70);
        C.due("day 2", x.days(1), 70);
        C.due("day 32", x.days(30), 70);
        C.due("marks stay", x.personIs(0, 0), 70);
        C.due("nothing more was bought", x.personIs(1, 7), 1);
    }

    // 3 (3): "buys as many LOAVES as that pays for .., as far as others still OFFER some".
    private static void soldOut() {
        MeltingMarks x = market(5, 7, 4);
        C.due("11 by 4", x.days(1), 2);
        C.due("bought 1", x.personIs(1, 7), 3);
        C.due("marks 1", x.personIs(1, 0), 1);
        C.due("bought 2: one was left", x.personIs(2, 7), 1);
        C.due("marks 2", x.personIs(2, 0), 2);
        C.due("sold 0", x.personIs(0, 6), 4);
        C.due("marks 0", x.personIs(0, 0), 8);
        C.due("loaves 0", x.personIs(0, 1), 0);
        MeltingMarks y = market(2, 10, 1);
        C.due("11 by 1", y.days(1), 11);
        C.due("nobody can pay that", y.personIs(1, 7) + y.personIs(2, 7), 0);
        C.due("marks stay", y.personIs(1, 0) * 100 + y.personIs(2, 0), 1001);
        MeltingMarks z = new MeltingMarks();
        z.person(12, 4, 0);
        z.person(0, 2, 0);
        z.habit(0, 0, 10);
        C.due("12 by 4", z.days(1), 3);
        C.due("of others alone", z.personIs(0, 7), 1);
        C.due("marks", z.personIs(0, 0), 9);
    }

    // 3 (3): "and as it then holds 9999 at most": what it sold ahead of that leaves room.
    private static void room() {
        int[] holds = {9996, 9997, 9998, 9999};
        for (int loaves : holds) {
            MeltingMarks x = new MeltingMarks();
            x.person(2, loaves, 0);
            x.person(0, 9, 0);
            x.habit(0, 0, 10);
            C.due("price", x.days(1), 1);
            C.due("bought at " + loaves, x.personIs(0, 7), Math.min(2, 9999 - loaves));
            x.habit(0, 2, 99);
            x.press(5);
            x.give(0, 5);
            x.days(1);
            C.due("filled by what it BAKES", x.personIs(0, 7), Math.min(2, 9999 - loaves));
        }
        MeltingMarks y = new MeltingMarks();
        y.person(3, 0, 0);
        y.person(1000, 9999, 0);
        y.person(0, 9999, 0);
        y.habit(0, 0, 10);
        y.habit(1, 0, 10);
        C.due("price", y.days(1), 1);
        C.due("sold 3 first", y.personIs(1, 6), 3);
        C.due("then there was room for 3", y.personIs(1, 7), 3);
        C.due("ate one", y.personIs(1, 1), 9998);
        C.due("marks", y.personIs(1, 0), 1000);
    }

    // Promise 4: "LOAVES that it sold ever, .. that it bought"; "for how many days it HUNGERED".
    private static void soldAndBoughtEver() {
        MeltingMarks x = market(3, 8);
        x.days(1);
        C.due("sold", x.personIs(0, 6), 2);
        x.habit(0, 2, 3);
        x.habit(0, 0, 0);
        x.press(6);
        x.give(1, 6);
        C.due("6 by 2", x.days(1), 3);
        C.due("sold ever", x.personIs(0, 6), 4);
        C.due("bought ever", x.personIs(1, 7), 4);
        C.due("sold by 1", x.personIs(1, 6), 0);
        C.due("bought by 0", x.personIs(0, 7), 0);
    }

    // 3 (4): "Each PERSON eats a LOAF, or HUNGERS (1 more)."
    private static void eating() {
        MeltingMarks x = market(2, 9, 0);
        x.person(0, 0, 1);
        x.person(0, 1, 0);
        x.days(1);
        long[] hungered = {0, 0, 1, 0, 0};
        for (int i = 0; i < 5; i++) {
            C.due("hunger of " + i, x.personIs(i, 5), hungered[i]);
            C.due("loaves of " + i, x.personIs(i, 1), 0);
        }
        x.days(1);
        long[] then = {1, 1, 2, 0, 1};
        for (int i = 0; i < 5; i++) {
            C.due("hunger of " + i, x.personIs(i, 5), then[i]);
        }
        for (int i = 0; i < 5; i++) {
            x.habit(i, 2, 1);
        }
        x.days(2);
        for (int i = 0; i < 5; i++) {
            C.due("who eats has HUNGERED for as many days as before", x.personIs(i, 5), then[i]);
        }
    }

    // 3 (5): "that is due on the DAY, or was".
    private static void dueDays() {
        for (int kind = 1; kind <= 2; kind++) {
            for (int due = 0; due < 4; due++) {
                MeltingMarks x = idle(10, 0);
                x.paper(kind, 1, 10, due);
                for (int day = 0; day < 5; day++) {
                    C.due("state ahead of day " + day, x.paperIs(0, 6), day > due ? 1 : 0);
                    C.due("marks ahead of day " + day, x.personIs(1, 0), day > due ? 10 : 0);
                    x.days(1);
                }
            }
            MeltingMarks y = idle(0, 0);
            y.paper(kind, 1, 10, 1);
            y.days(5);
            C.due("stays open", y.paperIs(0, 6), 0);
            y.press(10);
            y.give(0, 10);
            y.days(1);
            C.due("was due", y.paperIs(0, 6), 1);
            C.due("due stays", y.paperIs(0, 5), 1);
        }
    }

    // 3 (5): "as far as its MARKS go; .. PAID then if that was all, else stays OPEN (with its SUM)".
    private static void allOrOpen() {
        for (int kind = 1; kind <= 2; kind++) {
            for (int has = 9; has <= 11; has++) {
                MeltingMarks x = idle(has, 0);
                x.paper(kind, 1, 10, 0);
                x.days(1);
                C.due("state at " + has, x.paperIs(0, 6), has < 10 ? 0 : 1);
                C.due("sum at " + has, x.paperIs(0, 3), 10);
                C.due("by at " + has, x.personIs(0, 0), Math.max(0, has - 10));
                C.due("to at " + has, x.personIs(1, 0), Math.min(10, has));
                x.press(10);
                x.give(0, 10);
                x.days(1);
                C.due("all of it once more, or nothing", x.personIs(1, 0), has < 10 ? has + 10 : 10);
            }
        }
        MeltingMarks y = idle(0, 0);
        Check.tell(y, 0, "debt 0;rent 0;wage 0;");
        y.force(0, 0, 0);
        y.paper(1, 1, 10, 0);
        y.days(1);
        C.due("nothing is all", y.paperIs(0, 6), 1);
    }

    // 3: (3) goes ahead of (5).
    private static void marketAheadOfDebts() {
        MeltingMarks x = market(2, 5);
        x.paper(1, 1, 5, 0);
        C.due("price", x.days(1), 5);
        C.due("paid of what was sold for", x.paperIs(0, 6), 1);
        C.due("to", x.personIs(1, 0), 5);
        MeltingMarks y = market(2, 5);
        y.paper(1, 100, 5, 0);
        y.days(1);
        C.due("spent ahead of the debt", y.paperIs(0, 6), 0);
    }

    // 3 (5): "what is OWED on the DAY": the PRICE of the next DAY, made ahead of it, is not that of the DAY.
    private static void debtsByThePriceOfTheDay() {
        MeltingMarks x = market(2, 5);
        Check.tell(x, 0, "debt price*2;rent price;wage price;");
        x.force(0, 0, 0);
        Check.tell(x, 0, "debt 5;rent 5;wage 5;");
        x.force(0, 0, 1);
        x.paper(2, 1, 1, 0);
        x.paper(1, 1, 1, 0);
        x.paper(3, 1, 1, 0);
        C.due("price", x.days(1), 5);
        C.due("1 of gold, 2 of the debt, 1 of the rent", x.personIs(1, 0), 4);
        C.due("by the law of the day", x.personIs(0, 0), 1);
        MeltingMarks y = Check.ofPrices(10);
        y.paper(1, 1, 30, 1);
        Check.goOn(y, 30);
        // 30 by 10 less 30 by 10, not by the 30 of DAY 2.
        C.due("paid", y.paperIs(0, 6), 1);
        C.due("gain by the price of the day", y.gain(0, false), 0);
    }

    // 3 (5): "each OPEN RENT on DAYS that are multiples of 10"; "RENTS and WAGES whose last DAY it is are PAID."
    private static void rentDays() {
        MeltingMarks x = idle(1000, 0);
        x.days(1);
        x.paper(3, 1, 7, 9);
        x.paper(3, 1, 11, 10);
        x.paper(3, 1, 13, 29);
        x.paper(3, 1, 500, 300);
        x.tear(3);
        for (int day = 1; day <= 31; day++) {
            long got = (day > 10 ? 11 + 13 : 0) + (day > 20 ? 13 : 0);
            C.due("rents ahead of day " + day, x.personIs(1, 0), got);
            C.due("9 ahead of day " + day, x.paperIs(0, 6), day > 9 ? 1 : 0);
            C.due("10 ahead of day " + day, x.paperIs(1, 6), day > 10 ? 1 : 0);
            C.due("29 ahead of day " + day, x.paperIs(2, 6), day > 29 ? 1 : 0);
            x.days(1);
        }
        C.due("void stays void", x.paperIs(3, 6), 2);
        for (int kind = 0; kind < 6; kind++) {
            MeltingMarks v = idle(1000, 0);
            v.paper(kind, 1, 7, 2);
            v.tear(0);
            v.days(3);
            C.due("void stays void on its last day, of kind " + kind, v.paperIs(0, 6), 2);
            C.due("nothing came of it", v.personIs(1, 0), 0);
        }
        MeltingMarks y = idle(6, 0);
        y.paper(3, 1, 7, 20);
        y.days(1);
        C.due("as far as its marks go", y.personIs(1, 0), 6);
        C.due("a rent stays open", y.paperIs(0, 6), 0);
        y.days(20);
        C.due("its last day, though nothing was left", y.paperIs(0, 6), 1);
        C.due("its sum", y.paperIs(0, 3), 7);
        C.due("no gain", y.gain(0, false), 0);
        C.due("no loss", y.gain(1, true), 0);
    }

    // 3: what is paid is what COURT 0 says.
    private static void byCourtZero() {
        MeltingMarks x = idle(100, 0);
        Check.tell(x, 0, "debt 1;rent 2;wage 4;");
        Check.tell(x, 1, "debt 8;rent 16;wage 32;");
        x.force(0, 0, 0);
        x.force(1, 1, 0);
        x.paper(1, 1, 50, 0);
        x.paper(3, 1, 50, 0);
        x.paper(4, 1, 50, 0);
        x.paper(1, 1, 50, 9);
        C.due("pay", x.pay(3), 1);
        x.days(1);
        C.due("a debt, a rent, a wage and what was paid", x.personIs(1, 0), 1 + 2 + 4 + 1);
    }

    // "MARKS above MOST are BURNT, always."
    private static void burntByTrade() {
        for (int over = -1; over <= 2; over++) {
            MeltingMarks x = new MeltingMarks();
            x.person(MOST - 10 + over, 3, 0);
            x.person(10, 0, 0);
            x.habit(0, 0, 0);
            x.habit(1, 0, 10);
            C.due("price", x.days(1), 5);
            C.due("seller " + over, x.personIs(0, 0), Math.min(MOST, MOST + over));
            C.due("burnt " + over, x.count(7), Math.max(0, over));
            C.due("buyer " + over, x.personIs(1, 0), 0);
            C.due("bought " + over, x.personIs(1, 7), 2);
        }
    }

    private static void burntByPapers() {
        for (int over = -1; over <= 2; over++) {
            for (int kind = 1; kind <= 4; kind++) {
                MeltingMarks x = idle(10, MOST - 10 + over);
                x.paper(kind, 1, 10, 0);
                x.days(1);
                C.due("to of kind " + kind, x.personIs(1, 0), Math.min(MOST, MOST + over));
                C.due("burnt of kind " + kind, x.count(7), Math.max(0, over));
                C.due("by of kind " + kind, x.personIs(0, 0), kind == 4 ? 10 : 0);
                C.due("printed of kind " + kind, x.count(6), kind == 4 ? 10 : 0);
            }
            for (int kind = 0; kind < 6; kind++) {
                MeltingMarks x = idle(10, MOST - 10 + over);
                x.paper(kind, 1, 10, 0);
                if (kind != 3 && kind != 4) {
                    C.due("pay of kind " + kind, x.pay(0), 10);
                    C.due("to", x.personIs(1, 0), Math.min(MOST, MOST + over));
                    C.due("burnt", x.count(7), Math.max(0, over));
                    C.due("by", x.personIs(0, 0), 0);
                }
            }
        }
    }

    private static void burntByActs() {
        MeltingMarks x = idle(MOST - 3);
        C.due("press", x.press(MOST - 2), MOST - 2);
        C.due("press to the most", x.press(2), MOST);
        C.due("nothing burnt", x.count(7), 0);
        C.due("press", x.press(1), MOST);
        C.due("one burnt", x.count(7), 1);
        C.due("press", x.press(5), MOST);
        C.due("six burnt", x.count(7), 6);
        C.due("printed all the same", x.count(6), MOST + 6);
        C.due("give to the most", x.give(0, 3), MOST);
        C.due("none more", x.count(7), 6);
        C.due("give", x.give(0, 4), MOST);
        C.due("four more", x.count(7), 10);
        C.due("give", x.give(0, 1), MOST);
        C.due("one more", x.count(7), 11);
        C.due("the state", x.count(4), MOST - 8);
    }

    private static void burntByTax() {
        for (int over = -1; over <= 2; over++) {
            MeltingMarks x = idle(100, 59);
            x.press(MOST - 15 + over);
            C.due("tax", x.tax(), 15);
            C.due("the state", x.count(4), Math.min(MOST, MOST + over));
            C.due("burnt", x.count(7), Math.max(0, over));
            C.due("persons", x.count(5), 90 + 54);
            C.due("a tax is not printed", x.count(6), MOST - 15 + over);
        }
    }

    // GAIN: "SUM by PRICE of since, less what was paid by PRICE of the DAY on which it was PAID (in LOAVES; both cut)".
    private static void gainIsCutTwice() {
        for (int sum = 2; sum < 20; sum++) {
            MeltingMarks x = Check.ofPrices(2);
            x.paper(1, 1, sum, 300);
            Check.goOn(x, 3);
            x.press(MOST);
            x.give(0, 50);
            x.pay(0);
            C.due("gain of " + sum, x.gain(0, false), sum / 2 - sum / 3);
            C.due("loss of " + sum, x.gain(1, true), sum / 2 - sum / 3);
        }
        MeltingMarks y = idle(50, 0);
        y.paper(1, 1, 9, 300);
        y.tear(0);
        y.paper(0, 1, 9, 300);
        y.pay(1);
        C.due("a void one is no gain", y.gain(0, false), 0);
        C.due("a void one is no loss", y.gain(1, true), 0);
        MeltingMarks z = idle(4, 0);
        z.paper(1, 1, 9, 0);
        z.days(2);
        z.press(9);
        z.give(0, 9);
        z.days(1);
        C.due("to has 4 and 9", z.personIs(1, 0), 13);
        C.due("9 less the 9 by which it was PAID", z.gain(0, false), 0);
    }

    // "GAIN of BY, and LOSS of TO".
    private static void gainOfWhom() {
        MeltingMarks x = idle(100, 100, 100);
        Check.tell(x, 0, "debt sum-kind-1;rent 0;wage 0;");
        x.force(0, 0, 0);
        x.paper(1, 1, 10, 300);
        x.paper(1, 201, 10, 0);
        x.paper(1, 102, 10, 300);
        x.paper(2, 20, 10, 0);
        x.paper(2, 100, 10, 300);
        x.pay(0);
        x.pay(2);
        x.days(1);
        long[] gained = {2, 2, 2};
        long[] lost = {0, 4, 2};
        for (int i = 0; i < 3; i++) {
            C.due("gain of " + i, x.gain(i, false), gained[i]);
            C.due("loss of " + i, x.gain(i, true), lost[i]);
        }
    }

    // 4: "BY is THIN, if its OPEN TOWN PAPERS have more SUM together than its MARKS."
    private static void thinBits() {
        MeltingMarks x = idle(0, 1, 2, 3, 4, 5, 6, 7, 8, 9);
        for (int i = 0; i < 10; i++) {
            x.paper(5, 100 * i + (i + 1) % 10, 5, 300);
        }
        C.due("who has less than 5", x.thin(), 31);
        x.paper(5, 900, 4, 300);
        C.due("9 and 9", x.thin(), 31);
        x.paper(5, 900, 1, 300);
        C.due("9 and 10", x.thin(), 31 + 512);
        x.days(1);
        C.due("on another day", x.thin(), 31 + 512);
        C.due("called in as it is paid", x.pay(9), 5);
        C.due("then less is open", x.thin(), 30 + 512);
    }

    // 4: "each PERSON pays THE STATE a tenth of its MARKS (cut)".
    private static void taxTenths() {
        long[] marks = {0, 1, 9, 10, 11, 19, 20, 99, 100, MOST};
        long[] tenth = {0, 0, 0, 1, 1, 1, 2, 9, 10, MOST / 10};
        MeltingMarks x = idle(marks);
        C.due("tax", x.tax(), 24 + MOST / 10);
        for (int i = 0; i < 10; i++) {
            C.due("tenth of " + marks[i], marks[i] - x.personIs(i, 0), tenth[i]);
        }
        C.due("the state", x.count(4), 24 + MOST / 10);
        C.due("no day went by", x.count(3), 0);
        C.due("of nobody", new MeltingMarks().tax(), 0);
    }

    // 4: "all MARKS, .. and PRICES (those of all DAYS; 1 at least) by 10 to the power of k (1 to 9), cut."
    private static void theNew() {
        for (int k = 1; k <= 9; k++) {
            long by = 1;
            for (int i = 0; i < k; i++) {
                by *= 10;
            }
            MeltingMarks x = idle(by - 1, by, 2 * by - 1, 2 * by, MOST, 0);
            x.press(3 * by - 1);
            C.due("swap", x.swap(k), 1);
            long[] then = {0, 1, 1, 2, MOST / by, 0};
            for (int i = 0; i < 6; i++) {
                C.due("marks " + i + " by " + by, x.personIs(i, 0), then[i]);
            }
            C.due("the state by " + by, x.count(4), 2);
        }
        MeltingMarks y = Check.ofPrices(9, 10, 19, 20, 109, 110);
        C.due("price of the day", y.swap(1), 11);
        long[] then = {1, 1, 1, 1, 2, 10, 11};
        for (int day = 0; day < 7; day++) {
            C.due("price(" + day + ")", y.price(day), then[day]);
        }
        C.due("once more", y.swap(1), 1);
        C.due("price(5)", y.price(5), 1);
        C.due("loaves stay", y.personIs(0, 1), 1);
        C.due("no finding", y.count(9), 0);
    }

    // Promise 35: "7 BURNT (by THE NEW, too)", on top of what was burnt ahead of it.
    private static void theNewBurns() {
        MeltingMarks x = idle(25, 39);
        x.press(MOST);
        x.press(7);
        C.due("burnt", x.count(7), 7);
        x.swap(1);
        C.due("burnt by the new, too", x.count(7), 7 + 23 + 36 + MOST - MOST / 10);
        C.due("printed stays", x.count(6), MOST + 7);
        long before = x.count(7);
        x.swap(1);
        C.due("again", x.count(7), before + 2 + 3 + MOST / 10 - MOST / 100);
    }

    // 4: "SUMS of OPEN PAPERS".
    private static void theNewOfPapers() {
        MeltingMarks x = idle(1000, 1000);
        for (int kind = 0; kind < 6; kind++) {
            x.paper(kind, 1, 239, 300);
        }
        x.paper(0, 1, 77, 300);
        x.paper(0, 1, 88, 300);
        x.pay(6);
        x.tear(7);
        x.swap(1);
        for (int paper = 0; paper < 6; paper++) {
            C.due("sum of open " + paper, x.paperIs(paper, 3), 23);
            C.due("still open " + paper, x.paperIs(paper, 6), 0);
        }
        C.due("sum of a paid one", x.paperIs(6, 3), 77);
        C.due("sum of a void one", x.paperIs(7, 3), 88);
        C.due("owed then", x.owed(1, 0), 23);
        C.due("tear tells it", x.tear(2), 23);
    }

    // Promise 20: "PRICE of a DAY times 100 by that of another one (MOST, if that is above it)".
    private static void index() {
        for (long over = -1; over <= 1; over++) {
            MeltingMarks x = market(2, MOST / 100 + over);
            x.days(1);
            C.due("index(1, 0)", x.index(1, 0), over < 0 ? MOST - 100 : MOST);
            C.due("index(0, 1)", x.index(0, 1), 0);
            C.due("index(1, 1)", x.index(1, 1), 100);
        }
        MeltingMarks y = Check.ofPrices(3, 7);
        C.due("index(2, 1)", y.index(2, 1), 233);
        C.due("index(1, 2)", y.index(1, 2), 42);
    }

    // 5: "all as it would go": by laws that come into force on a day ahead, and papers whose last day comes.
    private static void aheadByLawsToCome() {
        MeltingMarks x = idle(0);
        x.paper(4, 0, 10, 3);
        Check.tell(x, 0, "debt 0;rent 0;wage 50;");
        x.force(0, 0, 2);
        x.press(15);
        long[] need = {0, 5, 55, 105, 105};
        for (int n = 1; n <= 5; n++) {
            C.due("need(" + n + ")", x.need(n), need[n - 1]);
        }
        C.due("it was not printed", x.count(6), 15);
        C.due("the state has it still", x.count(4), 15);
    }

    // 5: "behind which PRICE is twice that of the day ahead of it, or more": not that of THE DAY.
    private static void meltsByTheDayAhead() {
        MeltingMarks x = Check.ofPrices(30);
        x.paper(4, 0, 10, 300);
        // On DAY 1 all keep back, as 30 is above 11 times 1.
        C.due("30, 50, 60, 70 .. are never twice the one ahead", x.melts(30), Check.NONE);
        for (int wage = 14; wage <= 16; wage++) {
            MeltingMarks y = Check.ofPrices(30);
            y.paper(4, 0, wage, 300);
            C.due("30, then 30 and twice " + wage, y.melts(30), wage < 15 ? Check.NONE : 2);
        }
        MeltingMarks z = Check.ofPrices(30);
        Check.tell(z, 0, "debt 0;rent 0;wage (age=4)*30+(age=6)*999;");
        z.force(0, 0, 0);
        z.paper(4, 0, 1, 300);
        C.due("not in 4", z.melts(4), Check.NONE);
        C.due("in 5", z.melts(5), 5);
        C.due("the least of two", z.melts(30), 5);
    }

    // 5: HUNGER "of all together in these days".
    private static void hungerOfTheseDays() {
        MeltingMarks x = idle(0, 0);
        x.days(5);
        x.sheet(0, 8, 3);
        for (int n = 1; n <= 8; n++) {
            C.due("hunger of " + n, x.choices(n, 1), 2 * n);
        }
        C.due("6 in 3 days", x.proves(6, 0), -1);
        C.due("not 5", x.proves(5, 0), 3);
        x.put(0, 0, 2);
        C.due("the first number is neither", x.proves(9999, 0), 0);
        x.put(0, 0, 1);
        x.put(0, 2, 2);
        C.due("the last number is neither", x.proves(9999, 0), 2);
        x.sheet(0, 8, 0);
        C.due("no days, no hunger", x.proves(0, 0), -1);
    }

    // 5: "those with the least HUNGER ..; of several those with the least PRICE at the end".
    private static void hungerAheadOfPrice() {
        MeltingMarks x = new MeltingMarks();
        x.person(100, 0, 0);
        x.person(0, 0, 0);
        x.person(0, 3, 0);
        x.habit(0, 0, 10);
        x.habit(1, 0, 10);
        x.paper(4, 1, 101, 300);
        // With a TAX: 90 and 101 ASKED for 2, and person 0 can't pay 95.
        C.due("no tax", x.choices(1, 0), 0);
        C.due("no hunger", x.choices(1, 1), 0);
        C.due("by a greater price", x.choices(1, 2), 100);
        x.sheet(0, 8, 1);
        C.due("no tax", x.proves(0, 0), -1);
        x.put(0, 0, 1);
        C.due("a tax", x.proves(0, 0), 1);
        C.due("a tax", x.proves(1, 0), -1);
        x.tax();
        C.due("the lesser price", x.days(1), 95);
        C.due("person 0 hungers", x.personIs(0, 5), 1);
    }

    // Promise 28: "(1: a TAX ahead of that day, 0: none)": the first number is that of the first day.
    private static void numbersByDays() {
        MeltingMarks x = new MeltingMarks();
        x.person(100, 0, 0);
        x.person(0, 0, 0);
        x.person(0, 2, 1);
        x.habit(0, 0, 10);
        x.habit(1, 0, 10);
        x.paper(4, 1, 101, 300);
        // Without a TAX on the first day all 3 eat on it, else person 0 hungers; 2 hunger on the second.
        x.sheet(0, 8, 2);
        x.sheet(1, 8, 2);
        x.put(0, 1, 1);
        x.put(1, 0, 1);
        C.due("none, then a tax", x.proves(2, 0), -1);
        C.due("a tax, then none", x.proves(2, 1), 2);
        C.due("a tax, then none", x.proves(3, 1), -1);
        C.due("without a tax on the first day", x.choices(2, 0) & 1, 0);
        C.due("hunger", x.choices(2, 1), 2);
    }

    // Promise 29: what is given above MOST is BURNT, ahead as well.
    private static void besideBurns() {
        MeltingMarks x = market(11, MOST);
        C.due("MOST by 10, with it or without", x.beside(1, MOST, 1), 0);
        C.due("to person 0, who spends the half of it", x.beside(0, MOST, 1), MOST / 20);
        MeltingMarks y = market(11, MOST - 50);
        C.due("50 of it stay", y.beside(1, 70, 1), 5);
        C.due("none is printed now", y.count(6), 0);
        C.due("none is burnt now", y.count(7), 0);
    }

    // 5: "on each a TAX ahead of it": what is paid as a WAGE on the day is not taxed on it.
    private static void taxAheadOfTheDay() {
        MeltingMarks x = new MeltingMarks();
        x.person(100, 0, 0);
        x.person(0, 2, 0);
        x.habit(0, 0, 10);
        x.habit(1, 0, 0);
        x.paper(4, 0, 100, 300);
        C.due("90 and 100", x.choices(1, 2), 190);
        C.due("by a tax", x.choices(1, 0), 1);
    }

    // Promise 31: "(its lowest bits)".
    private static void lowestBits() {
        MeltingMarks x = idle(0);
        int[] bits = {8, 16, 32};
        long[][] one = {{1, 257, -255, 65537}, {1, 65537, -65535, 131073}, {1}};
        long[][] neither = {{2, 255, -1, 128, 258}, {257, 256, 65535, -1, 32768, 65538},
            {257, 65537, -1, Integer.MIN_VALUE, Integer.MAX_VALUE, 256, 65536}};
        long[][] nothing = {{0, 256, -256, 65536, Integer.MIN_VALUE}, {0, 65536, -65536, Integer.MIN_VALUE}, {0}};
        for (int s = 0; s < 3; s++) {
            x.sheet(s, bits[s], 2);
            for (long v : one[s]) {
                x.put(s, 1, (int) v);
                C.due(v + " of " + bits[s], x.proves(9999, s), -1);
            }
            for (long v : neither[s]) {
                x.put(s, 1, (int) v);
                C.due(v + " of " + bits[s], x.proves(9999, s), 1);
            }
            for (long v : nothing[s]) {
                x.put(s, 1, (int) v);
                C.due(v + " of " + bits[s], x.proves(9999, s), -1);
            }
        }
        x.sheet(3, 16, 2);
        x.put(1, 0, 256);
        C.due("copied with all its bits", x.copy(1, 0, 3, 1, 1), 1);
        C.due("it is there", x.proves(9999, 3), 1);
    }

    // Promises 33 and 34: "An IMAGE of all"; "All is as the IMAGE has it".
    private static void imageOfAll() {
        MeltingMarks x = Scene.RICH.make();
        Check.tell(x, 3, "x");
        Check.tell(x, 3, "debt sum+2;rent 1;wage 1;");
        x.force(3, 0, 3);
        x.press(MOST);
        x.press(123);
        x.pay(Scene.DEBT);
        x.pay(Scene.GOLD);
        C.holds("all four are unlike", x.gain(0, false) != 0 && x.gain(0, false) != x.gain(0, true)
            && x.personIs(0, 6) != x.personIs(0, 7) && x.personIs(3, 5) > 0);
        Map<String, Long> told = Witness.stateOf(x);
        C.due("image", x.image(), 3);
        x.habit(0, 0, 1);
        x.habit(0, 1, 2);
        x.habit(0, 2, 3);
        x.person(1, 2, 3);
        x.paper(1, 1, 9, 9);
        x.tear(Scene.WAGE);
        x.give(2, 500);
        x.tax();
        x.days(9);
        x.swap(2);
        x.press(77);
        C.holds("all went on", x.count(3) == 12 && x.count(0) == 5 && x.count(7) > 0);
        C.due("restore", x.restore(), 3);
        Map<String, Long> back = Witness.stateOf(x);
        C.holds("as it was: " + Witness.unlike(told, back), back.equals(told));
    }
}
