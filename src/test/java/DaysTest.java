/** Promises 18 to 24, and how a day goes by. */
public final class DaysTest {
    private static final Check C = new Check("DaysTest");

    public static void main(String[] args) {
        days();
        baking();
        priceOfTheNextDay();
        priceEdges();
        keepingBack();
        buyersAndSellersByNumbers();
        buyingAndRoom();
        soldTwice();
        hunger();
        wages();
        wagesByTheLaw();
        debts();
        debtsByNumbers();
        gainOnDueDay();
        gold();
        rents();
        rentAndDebtByNumbers();
        papersAndTownsWait();
        burning();
        price();
        index();
        press();
        give();
        tax();
        swap();
        swapCutsAll();
        C.end();
    }

    private static void days() {
        MeltingMarks x = new MeltingMarks();
        x.person(40, 21, 1);
        x.person(0, 0, 1);
        C.due("days(0)", x.days(0), Check.BEYOND);
        C.due("days(-1)", x.days(-1), Check.BEYOND);
        C.due("days(31)", x.days(31), Check.BEYOND);
        C.due("no day went by", x.count(3), 0);
        C.due("days(1)", x.days(1), 1);
        C.due("day 1", x.count(3), 1);
        C.due("days(30)", x.days(30), 1);
        C.due("day 31", x.count(3), 31);
        for (int i = 0; i < 8; i++) {
            x.days(30);
        }
        C.due("day 271", x.count(3), 271);
        C.due("days(30)", x.days(30), Check.FULL);
        C.due("beyond ahead of full", x.days(31), Check.BEYOND);
        C.due("nothing changed", x.count(3), 271);
        C.due("days(29)", x.days(29), 1);
        C.due("day 300", x.count(3), 300);
        C.due("days(1)", x.days(1), Check.FULL);
        C.due("price(300)", x.price(300), 1);
    }

    private static void baking() {
        MeltingMarks x = new MeltingMarks();
        x.person(0, 9999, 99);
        x.person(0, 9950, 99);
        x.person(0, 0, 5);
        x.days(1);
        C.due("9999 at most", x.personIs(0, 1), 9998);
        C.due("9999 at most", x.personIs(1, 1), 9998);
        C.due("baked ahead of eating", x.personIs(2, 1), 4);
        C.due("no hunger", x.personIs(2, 5), 0);
    }

    private static void priceOfTheNextDay() {
        MeltingMarks x = new MeltingMarks();
        x.person(99, 4, 0);
        x.person(101, 1, 2);
        x.habit(0, 0, 3);
        x.habit(1, 0, 7);
        // ASKED: 29 and 70 (cut). OFFERED: 3, and 2 of what was baked.
        C.due("price", x.days(1), 19);
        // Person 0 buys 1 of 1 (2 OFFERED), person 1 buys 3 of 0.
        C.due("marks 0", x.personIs(0, 0), 99 - 19 + 57);
        C.due("marks 1", x.personIs(1, 0), 101 + 19 - 57);
        C.due("loaves 0", x.personIs(0, 1), 4 + 1 - 3 - 1);
        C.due("loaves 1", x.personIs(1, 1), 3 - 1 + 3 - 1);
        C.due("sold 0", x.personIs(0, 6), 3);
        C.due("bought 0", x.personIs(0, 7), 1);
        C.due("sold 1", x.personIs(1, 6), 1);
        C.due("bought 1", x.personIs(1, 7), 3);
        C.due("marks of all", x.count(5), 200);
        C.due("loaves of all", x.count(8), 5);
    }

    private static void priceEdges() {
        MeltingMarks x = new MeltingMarks();
        x.person(3, 100, 0);
        C.due("1 at least", x.days(1), 1);
        MeltingMarks y = new MeltingMarks();
        y.person(500, 1, 0);
        y.person(500, 0, 0);
        C.due("nobody offers: that of the day", y.days(1), 1);
        C.due("nothing is bought", y.personIs(1, 0), 500);
        MeltingMarks z = new MeltingMarks();
        z.person(Check.MOST, 2, 0);
        z.person(Check.MOST, 0, 0);
        z.habit(0, 0, 10);
        z.habit(1, 0, 10);
        C.due("most at most", z.days(1), Check.MOST);
        C.due("bought one", z.personIs(1, 7), 1);
        C.due("paid all", z.personIs(1, 0), 0);
        C.due("burnt", z.count(7), Check.MOST);
        MeltingMarks w = new MeltingMarks();
        w.person(500, 1, 0);
        w.person(500, 2, 0);
        w.habit(0, 0, 0);
        w.habit(1, 0, 0);
        C.due("nobody asks", w.days(1), 1);
    }

    private static void keepingBack() {
        // 50 percent: kept back from a PRICE of three halves of the one ahead on.
        keeps(50, 10, 15, true);
        keeps(50, 10, 14, false);
        keeps(0, 10, 10, true);
        keeps(0, 10, 11, true);
        keeps(1000, 10, 109, false);
        keeps(1000, 10, 110, true);
        keeps(33, 3, 4, true);
        keeps(34, 3, 4, false);
        MeltingMarks x = new MeltingMarks();
        x.person(0, 11, 0);
        x.person(100, 0, 0);
        x.habit(0, 1, 0);
        C.due("not so on day 0", x.days(1), 5);
        C.due("sold", x.personIs(0, 6), 10);
    }

    /** Person 2 has loaves and KEEP; prices of the days 1 and 2 are as told. */
    private static void keeps(int keep, long first, long second, boolean keptBack) {
        MeltingMarks x = Check.ofPrices(first, second);
        x.person(0, 2, 0);
        x.habit(2, 1, keep);
        x.habit(0, 1, 1000);
        long marks = x.personIs(0, 0);
        // Person 0 OFFERS one loaf (unless it keeps back, too), person 2 one or none.
        long offered = (keptBack ? 0 : 1) + (second >= 11 * first ? 0 : 1);
        C.due("price at " + keep, x.days(1), offered == 0 ? second : marks / offered);
        C.due("sold at " + keep, x.personIs(2, 6), keptBack ? 0 : 1);
    }

    private static void buyersAndSellersByNumbers() {
        MeltingMarks x = new MeltingMarks();
        x.person(0, 4, 0);
        x.person(60, 0, 0);
        x.person(0, 4, 0);
        x.person(60, 0, 0);
        x.habit(1, 0, 10);
        x.habit(3, 0, 8);
        // 108 ASKED by 6 OFFERED: 18. Person 1 buys 3 of person 0, person 3 (48) 2 of person 2.
        C.due("price", x.days(1), 18);
        C.due("sold 0", x.personIs(0, 6), 3);
        C.due("sold 2", x.personIs(2, 6), 2);
        C.due("bought 1", x.personIs(1, 7), 3);
        C.due("bought 3", x.personIs(3, 7), 2);
        C.due("marks 0", x.personIs(0, 0), 54);
        C.due("marks 2", x.personIs(2, 0), 36);
        C.due("marks 1", x.personIs(1, 0), 6);
        C.due("marks 3", x.personIs(3, 0), 24);
    }

    private static void buyingAndRoom() {
        MeltingMarks x = new MeltingMarks();
        x.person(10000, 9990, 0);
        x.person(0, 9999, 0);
        x.habit(0, 0, 10);
        // 10000 by 9989 and 9998: 1 at least. There is room for 9 more.
        C.due("price", x.days(1), 1);
        C.due("bought", x.personIs(0, 7), 9);
        C.due("held 9999, ate 1", x.personIs(0, 1), 9998);
        C.due("paid", x.personIs(0, 0), 9991);
        MeltingMarks y = new MeltingMarks();
        y.person(100, 10, 0);
        y.person(0, 1, 0);
        y.habit(0, 0, 10);
        C.due("price", y.days(1), 11);
        C.due("nobody buys of itself", y.personIs(0, 7), 0);
        C.due("its marks stay", y.personIs(0, 0), 100);
    }

    private static void soldTwice() {
        MeltingMarks x = new MeltingMarks();
        x.person(100, 5, 0);
        x.person(100, 5, 0);
        x.habit(0, 0, 10);
        x.habit(1, 0, 10);
        // 200 by 8: 25. Each buys the 4 of the other one; what is bought is not OFFERED.
        C.due("price", x.days(1), 25);
        C.due("sold", x.personIs(0, 6) + x.personIs(1, 6), 8);
        C.due("loaves", x.personIs(0, 1) * 100 + x.personIs(1, 1), 404);
        C.due("marks", x.personIs(0, 0) * 1000 + x.personIs(1, 0), 100100);
    }

    private static void hunger() {
        MeltingMarks x = new MeltingMarks();
        x.person(0, 2, 0);
        x.person(0, 0, 1);
        x.days(5);
        C.due("two loaves, three days of hunger", x.personIs(0, 5), 3);
        C.due("bakes and eats", x.personIs(1, 5), 0);
        C.due("loaves", x.count(8), 0);
    }

    private static void wages() {
        MeltingMarks x = new MeltingMarks();
        x.person(0, 3, 0);
        x.person(0, 1, 0);
        x.habit(0, 0, 0);
        x.habit(1, 0, 0);
        x.paper(4, 0, 30, 1);
        x.paper(4, 1, 20, 0);
        x.press(35);
        x.days(1);
        C.due("wage 0", x.personIs(0, 0), 30);
        C.due("wage 1", x.personIs(1, 0), 20);
        C.due("printed what was lacking", x.count(6), 35 + 15);
        C.due("the state has nothing", x.count(4), 0);
        C.due("its last day", x.paperIs(1, 6), 1);
        C.due("not its last day", x.paperIs(0, 6), 0);
        x.press(100);
        x.days(1);
        C.due("wage 0", x.personIs(0, 0), 60);
        C.due("wage 1", x.personIs(1, 0), 20);
        C.due("nothing printed", x.count(6), 150);
        C.due("the state has", x.count(4), 70);
        C.due("its last day", x.paperIs(0, 6), 1);
        x.days(1);
        C.due("no wage more", x.personIs(0, 0), 60);
        C.due("no gain by wages", x.gain(0, true) + x.gain(1, true), 0);
    }

    private static void wagesByTheLaw() {
        MeltingMarks x = new MeltingMarks();
        x.person(0, 11, 0);
        x.person(0, 0, 0);
        x.habit(1, 0, 10);
        x.paper(4, 1, 50, 300);
        Check.tell(x, 0, "debt 0;rent 0;wage sum*late*2;");
        x.force(0, 0, 0);
        Check.tell(x, 0, "debt 0;rent 0;wage 1;");
        x.force(0, 1, 0);
        // The wage is paid ahead of the market: 100 for 10 loaves.
        C.due("price", x.days(1), 10);
        C.due("bought", x.personIs(1, 7), 10);
        C.due("printed", x.count(6), 100);
    }

    private static void debts() {
        MeltingMarks x = idle(100, 0);
        x.paper(1, 1, 60, 2);
        x.days(2);
        C.due("not due yet", x.paperIs(0, 6), 0);
        C.due("marks", x.personIs(0, 0), 100);
        x.days(1);
        C.due("paid as it is due", x.paperIs(0, 6), 1);
        C.due("marks", x.personIs(0, 0), 40);
        C.due("marks", x.personIs(1, 0), 60);
        x.paper(1, 1, 50, 3);
        x.days(1);
        C.due("as far as its marks go", x.personIs(0, 0), 0);
        C.due("to has all", x.personIs(1, 0), 100);
        C.due("stays open", x.paperIs(1, 6), 0);
        C.due("with its sum", x.paperIs(1, 3), 50);
        x.press(70);
        x.give(0, 70);
        x.days(1);
        C.due("paid late", x.paperIs(1, 6), 1);
        C.due("all of it", x.personIs(0, 0), 20);
        C.due("to has more", x.personIs(1, 0), 150);
        Check.tell(x, 0, "debt 0;rent 0;wage 0;");
        x.force(0, 0, 0);
        x.paper(1, 1, 500, 5);
        x.days(1);
        C.due("nothing is owed", x.paperIs(2, 6), 1);
        C.due("marks", x.personIs(0, 0), 20);
        C.due("gain", x.gain(0, false), 500);
    }

    private static void debtsByNumbers() {
        MeltingMarks x = idle(50, 0);
        x.paper(1, 100, 40, 0);
        x.paper(1, 1, 40, 0);
        x.paper(2, 1, 30, 0);
        x.days(1);
        C.due("it had nothing yet", x.paperIs(0, 6), 0);
        C.due("paid", x.paperIs(1, 6), 1);
        C.due("as far as it went", x.paperIs(2, 6), 0);
        C.due("marks", x.personIs(0, 0), 0);
        C.due("marks", x.personIs(1, 0), 50);
        x.days(1);
        // Now 40 come back first, and 30 of them go again.
        C.due("paid", x.paperIs(0, 6), 1);
        C.due("paid", x.paperIs(2, 6), 1);
        C.due("marks", x.personIs(0, 0), 10);
        C.due("marks", x.personIs(1, 0), 40);
    }

    private static void gainOnDueDay() {
        MeltingMarks x = Check.ofPrices(10);
        x.paper(1, 1, 95, 2);
        Check.goOn(x, 100, 100);
        // DAY 2 went by: 95 by 10 less 95 by 100, by the prices of the days 1 and 2.
        C.due("paid", x.paperIs(0, 6), 1);
        C.due("gain", x.gain(0, false), 9);
        C.due("loss", x.gain(1, true), 9);
        MeltingMarks y = idle(10, 0);
        y.paper(1, 1, 40, 0);
        y.days(1);
        C.due("no gain while open", y.gain(0, false), 0);
        Check.tell(y, 0, "debt 7;rent 0;wage 0;");
        y.force(0, 0, 0);
        y.press(50);
        y.give(0, 50);
        y.days(1);
        C.due("sum less what was paid as it was paid", y.gain(0, false), 33);
    }

    private static void gold() {
        MeltingMarks x = Check.ofPrices(10);
        x.paper(2, 1, 9, 2);
        Check.goOn(x, 90);
        C.due("owed", x.owed(0, 0), 810);
        x.press(1000);
        x.give(0, 1000);
        x.habit(0, 0, 0);
        x.days(1);
        C.due("paid in gold", x.personIs(1, 0), 810);
        // 9 by 10 less 810 by 90.
        C.due("gain", x.gain(0, false), -9);
        C.due("loss", x.gain(1, true), -9);
    }

    private static void rents() {
        MeltingMarks x = idle(100, 0);
        x.paper(3, 1, 10, 19);
        x.paper(3, 1, 1, 20);
        x.days(1);
        C.due("on day 0", x.personIs(1, 0), 11);
        x.days(9);
        C.due("on no other day", x.personIs(1, 0), 11);
        x.days(1);
        C.due("on day 10", x.personIs(1, 0), 22);
        C.due("open", x.paperIs(0, 6), 0);
        x.days(8);
        C.due("open up to its last day", x.paperIs(0, 6), 0);
        x.days(1);
        C.due("its last day", x.paperIs(0, 6), 1);
        C.due("open", x.paperIs(1, 6), 0);
        x.days(1);
        C.due("paid on its last day, too", x.personIs(1, 0), 23);
        C.due("its last day", x.paperIs(1, 6), 1);
        C.due("no gain by rents", x.gain(0, false), 0);
        x.paper(3, 1, 500, 30);
        x.paper(3, 1, 500, 60);
        x.days(10);
        C.due("as far as its marks go", x.personIs(1, 0), 100);
        C.due("paid on its last day all the same", x.paperIs(2, 6), 1);
        C.due("open", x.paperIs(3, 6), 0);
    }

    private static void rentAndDebtByNumbers() {
        MeltingMarks x = idle(50, 0);
        x.paper(3, 1, 20, 300);
        x.paper(1, 1, 40, 0);
        x.days(1);
        C.due("the rent took its share first", x.paperIs(1, 6), 0);
        MeltingMarks y = idle(50, 0);
        y.paper(1, 1, 40, 0);
        y.paper(3, 1, 20, 300);
        y.days(1);
        C.due("the debt came first", y.paperIs(0, 6), 1);
        C.due("all went", y.personIs(0, 0), 0);
    }

    private static void papersAndTownsWait() {
        MeltingMarks x = idle(50, 0);
        x.paper(0, 1, 10, 0);
        x.paper(5, 1, 10, 0);
        x.days(20);
        C.due("open", x.count(2), 2);
        C.due("marks", x.personIs(0, 0), 50);
    }

    private static void burning() {
        MeltingMarks x = idle(Check.MOST, Check.MOST - 5);
        x.paper(4, 0, 7, 0);
        x.paper(1, 1, 9, 0);
        x.days(1);
        // 7 of the wage, then 4 of the 9.
        C.due("burnt", x.count(7), 11);
        C.due("marks", x.personIs(0, 0), Check.MOST - 9);
        C.due("marks", x.personIs(1, 0), Check.MOST);
        C.due("printed", x.count(6), 7);
    }

    private static void price() {
        MeltingMarks x = Check.ofPrices(2, 3, 5);
        long[] want = {1, 2, 3, 5};
        for (int day = 0; day < 4; day++) {
            C.due("price(" + day + ")", x.price(day), want[day]);
        }
        C.due("price(4)", x.price(4), Check.BEYOND);
        C.due("price(-1)", x.price(-1), Check.BEYOND);
        x.need(5);
        C.due("not told by what is asked ahead", x.price(4), Check.BEYOND);
        C.due("price(most)", x.price(Integer.MAX_VALUE), Check.BEYOND);
    }

    private static void index() {
        MeltingMarks x = Check.ofPrices(7, 10, 100);
        C.due("index(1, 0)", x.index(1, 0), 700);
        C.due("index(0, 1)", x.index(0, 1), 14);
        C.due("index(2, 1)", x.index(2, 1), 142);
        C.due("index(3, 3)", x.index(3, 3), 100);
        C.due("index(0, 3)", x.index(0, 3), 1);
        C.due("index(4, 0)", x.index(4, 0), Check.BEYOND);
        C.due("index(0, 4)", x.index(0, 4), Check.BEYOND);
        C.due("index(-1, 0)", x.index(-1, 0), Check.BEYOND);
        C.due("index(0, -1)", x.index(0, -1), Check.BEYOND);
        MeltingMarks y = new MeltingMarks();
        y.person(Check.MOST / 100 + 7, 2, 0);
        y.habit(0, 0, 10);
        y.days(1);
        C.due("price", y.price(1), Check.MOST / 100 + 7);
        C.due("most, if above it", y.index(1, 0), Check.MOST);
    }

    private static void press() {
        MeltingMarks x = new MeltingMarks();
        C.due("press(0)", x.press(0), 0);
        C.due("press(5)", x.press(5), 5);
        C.due("press(most)", x.press(Check.MOST), Check.MOST);
        C.due("printed", x.count(6), Check.MOST + 5);
        C.due("burnt", x.count(7), 5);
        C.due("press(-1)", x.press(-1), Check.BEYOND);
        C.due("press(most + 1)", x.press(Check.MOST + 1), Check.BEYOND);
        C.due("the state", x.count(4), Check.MOST);
        C.due("printed", x.count(6), Check.MOST + 5);
    }

    private static void give() {
        MeltingMarks x = new MeltingMarks();
        x.person(10, 0, 0);
        x.person(Check.MOST - 10, 0, 0);
        x.press(100);
        C.due("give(0, 30)", x.give(0, 30), 40);
        C.due("the state", x.count(4), 70);
        C.due("burnt above most", x.give(1, 30), Check.MOST);
        C.due("burnt", x.count(7), 20);
        C.due("give(0, 41)", x.give(0, 41), Check.LOW);
        C.due("give(0, 0)", x.give(0, 0), Check.BEYOND);
        C.due("give(0, -1)", x.give(0, -1), Check.BEYOND);
        C.due("give(0, most + 1)", x.give(0, Check.MOST + 1), Check.BEYOND);
        C.due("give(0, most)", x.give(0, Check.MOST), Check.LOW);
        C.due("give(2, 1)", x.give(2, 1), Check.BEYOND);
        C.due("give(-1, 1)", x.give(-1, 1), Check.BEYOND);
        C.due("give(0, 40)", x.give(0, 40), 80);
        C.due("the state", x.count(4), 0);
    }

    private static void tax() {
        MeltingMarks x = new MeltingMarks();
        x.person(109, 0, 0);
        x.person(9, 0, 0);
        x.person(Check.MOST, 0, 0);
        C.due("tax", x.tax(), 10 + Check.MOST / 10);
        C.due("a tenth, cut", x.personIs(0, 0), 99);
        C.due("a tenth, cut", x.personIs(1, 0), 9);
        C.due("a tenth, cut", x.personIs(2, 0), Check.MOST - Check.MOST / 10);
        C.due("the state", x.count(4), 10 + Check.MOST / 10);
        C.due("nothing burnt", x.count(7), 0);
        x.press(Check.MOST - 10 - Check.MOST / 10);
        long before = x.count(5);
        long got = x.tax();
        C.due("what it got", got, before - x.count(5));
        C.due("burnt above most", x.count(7), got);
        C.due("the state", x.count(4), Check.MOST);
    }

    private static void swap() {
        MeltingMarks x = Check.ofPrices(7, 70, 707);
        C.due("swap(0)", x.swap(0), Check.BEYOND);
        C.due("swap(10)", x.swap(10), Check.BEYOND);
        C.due("swap(-1)", x.swap(-1), Check.BEYOND);
        C.due("swap(1)", x.swap(1), 70);
        long[] want = {1, 1, 7, 70};
        for (int day = 0; day < 4; day++) {
            C.due("price(" + day + ")", x.price(day), want[day]);
        }
        C.due("swap(9)", x.swap(9), 1);
    }

    private static void swapCutsAll() {
        MeltingMarks x = new MeltingMarks();
        x.person(129, 0, 0);
        x.person(7, 0, 0);
        x.press(1999);
        x.paper(1, 1, 305, 300);
        x.paper(1, 1, 3050, 300);
        x.paper(5, 1, 9, 300);
        x.tear(1);
        C.due("swap(1)", x.swap(1), 1);
        C.due("marks", x.personIs(0, 0), 12);
        C.due("marks", x.personIs(1, 0), 0);
        C.due("the state", x.count(4), 199);
        C.due("burnt", x.count(7), 117 + 7 + 1800);
        C.due("printed stays", x.count(6), 1999);
        C.due("sum of an open one", x.paperIs(0, 3), 30);
        C.due("sum of a void one", x.paperIs(1, 3), 3050);
        C.due("sum cut to nothing", x.paperIs(2, 3), 0);
        MeltingMarks y = new MeltingMarks();
        y.person(Check.MOST, 0, 0);
        y.swap(9);
        C.due("swap(9)", y.personIs(0, 0), 1000000);
    }

    /** Two persons who neither ask nor offer. */
    private static MeltingMarks idle(long first, long second) {
        MeltingMarks x = new MeltingMarks();
        x.person(first, 0, 0);
        x.person(second, 0, 0);
        x.habit(0, 0, 0);
        x.habit(1, 0, 0);
        return x;
    }
}
