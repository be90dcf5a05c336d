/** Promises 25 to 29. */
public final class AheadTest {
    private static final Check C = new Check("AheadTest");

    public static void main(String[] args) {
        need();
        melts();
        meltsEdges();
        choices();
        choicesOfAllWays();
        choicesByHunger();
        choicesByFewestTaxes();
        choicesFindings();
        proves();
        fullHouse();
        provesFindings();
        beside();
        nothingChanges();
        C.end();
    }

    private static void need() {
        MeltingMarks x = busy();
        for (int n = 1; n <= 30; n++) {
            long told = x.need(n);
            x.image();
            long before = x.count(6);
            x.days(n);
            C.due("need(" + n + ")", told, x.count(6) - before);
            x.restore();
        }
        MeltingMarks y = new MeltingMarks();
        y.person(0, 0, 0);
        y.paper(4, 0, 30, 2);
        y.press(40);
        C.due("need(1)", y.need(1), 0);
        C.due("need(2)", y.need(2), 20);
        C.due("need(3)", y.need(3), 50);
        C.due("need(4)", y.need(4), 50);
        C.due("need(0)", y.need(0), Check.BEYOND);
        C.due("need(31)", y.need(31), Check.BEYOND);
        toDay(y, 299);
        C.due("need(1)", y.need(1), 0);
        C.due("need(2)", y.need(2), Check.FULL);
        C.due("beyond ahead of full", y.need(31), Check.BEYOND);
    }

    private static void melts() {
        MeltingMarks x = Check.ofPrices(10);
        C.due("stays as it is", x.melts(30), Check.NONE);
        x.press(10);
        x.give(0, 10);
        C.due("twice", x.melts(1), 1);
        x.days(1);
        C.due("no more", x.melts(30), Check.NONE);
        x.press(19);
        x.give(0, 19);
        C.due("less than twice", x.melts(30), Check.NONE);
        // From 39 on the wage makes it more: 39 + 20, + 20 .. is never twice.
        x.paper(4, 0, 20, 300);
        C.due("59 by 20", x.melts(3), 1);
        x.tear(0);
        x.days(1);
        C.due("price", x.count(5), 39);
        Check.tell(x, 0, "debt 0;rent 0;wage (age=2)*39;");
        x.force(0, 0, 0);
        x.paper(4, 0, 20, 300);
        C.due("not in 2", x.melts(2), Check.NONE);
        C.due("behind 3", x.melts(3), 3);
        C.due("behind 3", x.melts(30), 3);
    }

    private static void meltsEdges() {
        MeltingMarks x = busy();
        C.due("melts(0)", x.melts(0), Check.BEYOND);
        C.due("melts(31)", x.melts(31), Check.BEYOND);
        C.due("melts(-1)", x.melts(-1), Check.BEYOND);
        toDay(x, 290);
        C.due("melts(11)", x.melts(11), Check.FULL);
        C.due("beyond ahead of full", x.melts(31), Check.BEYOND);
        long told = x.melts(10);
        C.holds("melts(10)", told == Check.NONE || told >= 1 && told <= 10);
    }

    private static void choices() {
        MeltingMarks x = new MeltingMarks();
        x.person(0, 1, 1);
        C.due("all alike: no tax", x.choices(8, 0), 0);
        C.due("no hunger", x.choices(8, 1), 0);
        C.due("price", x.choices(8, 2), 1);
        MeltingMarks y = Check.ofPrices(100);
        // Person 1 hungers each day; a tax on each lowers the price, but only by whole tenths.
        C.due("hunger", y.choices(3, 1), 3);
        C.due("each day a tax", y.choices(3, 0), 7);
        C.due("price", y.choices(3, 2), 73);
        MeltingMarks z = Check.ofPrices(10);
        // 10, 9, 9: a tenth of 9 is nothing; of the days the first is the least number.
        C.due("one tax is enough", z.choices(4, 0), 1);
        C.due("price", z.choices(4, 2), 9);
    }

    private static void choicesOfAllWays() {
        for (int kind = 0; kind < 4; kind++) {
            for (int n = 1; n <= 8; n++) {
                if (kind < 2 || n < 6) {
                    compareWays(kind, n);
                }
            }
        }
    }

    /** Each way is gone by an object of its own, made by the same calls. */
    private static void compareWays(int kind, int n) {
        long bestHunger = -1;
        long bestPrice = 0;
        int best = 0;
        for (int way = 0; way < 1 << n; way++) {
            MeltingMarks y = busyOrPoor(kind);
            for (int k = 0; k < n; k++) {
                if ((way >> k & 1) == 1) {
                    y.tax();
                }
                y.days(1);
            }
            long hunger = hunger(y);
            long price = y.price(n);
            boolean better = bestHunger < 0 || hunger < bestHunger
                || hunger == bestHunger && price < bestPrice
                || hunger == bestHunger && price == bestPrice && Integer.bitCount(way) < Integer.bitCount(best);
            if (better) {
                bestHunger = hunger;
                bestPrice = price;
                best = way;
            }
        }
        MeltingMarks x = busyOrPoor(kind);
        C.due("choices(" + n + ", 0)", x.choices(n, 0), best);
        C.due("choices(" + n + ", 1)", x.choices(n, 1), bestHunger);
        C.due("choices(" + n + ", 2)", x.choices(n, 2), bestPrice);
    }

    private static MeltingMarks busyOrPoor(int kind) {
        return kind == 0 ? busy() : poor(kind);
    }

    /** Only with a TAX can person 0 pay for a loaf: 99 by 10 and not 109 by 10. */
    private static MeltingMarks taxFeeds() {
        MeltingMarks x = new MeltingMarks();
        x.person(9, 0, 0);
        x.person(100, 0, 0);
        x.person(0, 11, 0);
        x.habit(0, 0, 10);
        x.habit(1, 0, 10);
        x.habit(2, 0, 0);
        return x;
    }

    private static void choicesByHunger() {
        MeltingMarks x = taxFeeds();
        C.due("a tax", x.choices(1, 0), 1);
        C.due("no hunger", x.choices(1, 1), 0);
        C.due("price", x.choices(1, 2), 9);
        x.sheet(0, 8, 1);
        C.due("without a tax", x.proves(0, 0), 1);
        C.due("without a tax", x.proves(1, 0), -1);
        x.put(0, 0, 1);
        C.due("with a tax", x.proves(0, 0), -1);
        x.days(5);
        long hungered = hunger(x);
        C.holds("of these days alone", hungered > 0 && x.choices(1, 1) <= 3);
    }

    private static void choicesByFewestTaxes() {
        MeltingMarks x = new MeltingMarks();
        x.person(20, 4, 1);
        x.habit(0, 0, 10);
        Check.tell(x, 0, "debt 0;rent 0;wage (age=1)*10;");
        x.force(0, 0, 0);
        x.paper(4, 0, 1, 300);
        // Marks at the end, for 4 loaves: 30, 28, 28, 27 (taxes 0 and 1), 27 (tax 2 alone), 26, 26, 25.
        C.due("the fewest taxes, not the least number", x.choices(3, 0), 4);
        C.due("price", x.choices(3, 2), 6);
        C.due("hunger", x.choices(3, 1), 0);
    }

    private static void fullHouse() {
        MeltingMarks x = new MeltingMarks();
        for (int i = 0; i < 10; i++) {
            x.person(1000 * i, 3 * i, i % 3);
        }
        for (int i = 0; i < 24; i++) {
            int by = i % 10;
            x.paper(i % 6, i % 6 == 4 ? by : 100 * by + (by + 3) % 10, 10 * i + 1, 5 + i);
        }
        Check.tell(x, 0, "debt sum*price;rent sum;wage sum+late;");
        for (int i = 0; i < 12; i++) {
            C.due("law", x.force(0, i % 2, i), i);
        }
        C.due("image", x.image(), 0);
        C.due("unlike: the wage, at a price of 1", x.unlike(), 4);
        C.holds("thin", x.thin() >= 0);
        C.holds("choices", x.choices(8, 1) >= 0);
        C.due("none unlike, once both have a law", x.days(30) > 0 ? x.unlike() : 0, Check.NONE);
        C.holds("swap", x.swap(1) >= 1);
        C.due("restore", x.restore(), 0);
        long need = x.need(30);
        x.days(30);
        C.due("printed", x.count(6), need);
        C.due("open ones", x.count(2), openOnes(x));
    }

    private static long openOnes(MeltingMarks x) {
        long open = 0;
        for (int i = 0; i < x.count(1); i++) {
            open += x.paperIs(i, 6) == 0 ? 1 : 0;
        }
        return open;
    }

    private static void choicesFindings() {
        MeltingMarks x = busy();
        C.due("choices(0, 0)", x.choices(0, 0), Check.BEYOND);
        C.due("choices(9, 0)", x.choices(9, 0), Check.BEYOND);
        C.due("choices(1, 3)", x.choices(1, 3), Check.BEYOND);
        C.due("choices(1, -1)", x.choices(1, -1), Check.BEYOND);
        toDay(x, 295);
        C.due("choices(6, 0)", x.choices(6, 0), Check.FULL);
        C.due("beyond ahead of full", x.choices(6, 3), Check.BEYOND);
        C.holds("choices(5, 0)", x.choices(5, 0) >= 0);
    }

    private static void proves() {
        MeltingMarks x = new MeltingMarks();
        x.person(100, 0, 0);
        x.person(0, 4, 0);
        x.sheet(0, 8, 5);
        x.image();
        for (int plan = 0; plan < 32; plan++) {
            for (int k = 0; k < 5; k++) {
                x.put(0, k, plan >> k & 1);
            }
            MeltingMarks y = new MeltingMarks();
            y.person(100, 0, 0);
            y.person(0, 4, 0);
            for (int k = 0; k < 5; k++) {
                if ((plan >> k & 1) == 1) {
                    y.tax();
                }
                y.days(1);
            }
            int hunger = (int) hunger(y);
            C.due("as much as it is", x.proves(hunger, 0), -1);
            if (hunger > 0) {
                C.due("less than it is", x.proves(hunger - 1, 0), 5);
            }
        }
        x.put(0, 3, 2);
        C.due("neither", x.proves(9999, 0), 3);
        x.put(0, 1, -1);
        C.due("the first that is neither", x.proves(9999, 0), 1);
        x.put(0, 1, 257);
        C.due("its lowest bits", x.proves(9999, 0), 3);
        x.put(0, 3, 256);
        C.due("its lowest bits", x.proves(9999, 0), -1);
        x.sheet(1, 16, 0);
        C.due("no days", x.proves(0, 1), -1);
        x.sheet(2, 32, 20);
        C.due("twenty days", x.proves(0, 2), 20);
        C.due("twenty days", x.proves(9999, 2), -1);
        x.put(2, 19, 257);
        C.due("32 bits", x.proves(9999, 2), 19);
    }

    private static void provesFindings() {
        MeltingMarks x = new MeltingMarks();
        x.person(100, 0, 0);
        x.sheet(0, 8, 20);
        x.sheet(1, 8, 0);
        C.due("v -1", x.proves(-1, 0), Check.BEYOND);
        C.due("v 10000", x.proves(10000, 0), Check.BEYOND);
        C.due("sheet 4", x.proves(0, 4), Check.BEYOND);
        C.due("sheet -1", x.proves(0, -1), Check.BEYOND);
        C.due("missing", x.proves(0, 2), Check.MISSING);
        C.due("beyond ahead of missing", x.proves(-1, 2), Check.BEYOND);
        toDay(x, 280);
        C.due("up to day 300", x.proves(20, 0), -1);
        C.due("up to day 300", x.proves(19, 0), 20);
        x.days(1);
        C.due("full", x.proves(20, 0), Check.FULL);
        x.put(0, 0, 5);
        C.due("full ahead of its answer", x.proves(20, 0), Check.FULL);
        toDay(x, 300);
        C.due("no days", x.proves(0, 1), -1);
    }

    private static void beside() {
        MeltingMarks x = Check.ofPrices(10);
        C.due("beside(0, 30, 1)", x.beside(0, 30, 1), 30);
        C.due("beside(0, 0, 5)", x.beside(0, 0, 5), 0);
        C.due("beside(1, 30, 1)", x.beside(1, 30, 1), 0);
        C.due("most at most", x.beside(0, Check.MOST, 1), Check.MOST - 10);
        C.due("person 2", x.beside(2, 1, 1), Check.BEYOND);
        C.due("person -1", x.beside(-1, 1, 1), Check.BEYOND);
        C.due("v -1", x.beside(0, -1, 1), Check.BEYOND);
        C.due("v above most", x.beside(0, Check.MOST + 1, 1), Check.BEYOND);
        C.due("n 0", x.beside(0, 1, 0), Check.BEYOND);
        C.due("n 31", x.beside(0, 1, 31), Check.BEYOND);
        toDay(x, 299);
        C.due("full", x.beside(0, 1, 2), Check.FULL);
        C.due("beyond ahead of full", x.beside(0, 1, 31), Check.BEYOND);
        C.due("n 1", x.beside(0, 5, 1), 5);
        MeltingMarks y = busy();
        for (int n = 1; n <= 30; n += 4) {
            long told = y.beside(1, 70000, n);
            y.image();
            y.press(70000);
            y.give(1, 70000);
            long with = y.days(n);
            y.restore();
            long without = y.days(n);
            y.restore();
            C.due("beside(1, 70000, " + n + ")", told, with - without);
        }
        lesserBeside();
    }

    /** A PRICE above 1000000 lets a debt take all that person 0 has: the lesser PRICE is no finding. */
    private static void lesserBeside() {
        MeltingMarks x = Check.ofPrices(10, 100, 1000, 10000, 100000, 1000000);
        Check.tell(x, 0, "debt (999999+1<price)*999999*9;rent 0;wage 0;");
        x.force(0, 0, 0);
        x.paper(1, 1, 1, 7);
        C.due("behind 1", x.beside(0, 100000, 1), 100000);
        C.due("behind 2", x.beside(0, 100000, 2), 100000);
        C.due("behind 3", x.beside(0, 100000, 3), -999999);
        C.due("no finding", x.count(9), 0);
    }

    private static void nothingChanges() {
        MeltingMarks x = busy();
        MeltingMarks y = busy();
        x.sheet(0, 8, 20);
        x.need(30);
        x.melts(30);
        x.choices(8, 0);
        x.proves(5, 0);
        x.beside(0, Check.MOST, 30);
        for (int what = 0; what < 9; what++) {
            C.due("count(" + what + ")", x.count(what), y.count(what));
        }
        C.due("days", x.days(7), y.days(7));
        for (int i = 0; i < x.count(0); i++) {
            for (int what = 0; what < 8; what++) {
                C.due("personIs", x.personIs(i, what), y.personIs(i, what));
            }
            C.due("gain", x.gain(i, false), y.gain(i, false));
            C.due("loss", x.gain(i, true), y.gain(i, true));
        }
        for (int i = 0; i < x.count(1); i++) {
            C.due("paperIs", x.paperIs(i, 6), y.paperIs(i, 6));
        }
        for (int day = 0; day <= 7; day++) {
            C.due("price", x.price(day), y.price(day));
        }
    }

    /** Persons, papers of all kinds and laws of both courts. */
    private static MeltingMarks busy() {
        MeltingMarks x = new MeltingMarks();
        x.person(900, 6, 2);
        x.person(70, 1, 0);
        x.person(500, 30, 3);
        x.person(20, 0, 0);
        x.habit(0, 0, 8);
        x.habit(2, 1, 40);
        Check.tell(x, 0, "debt sum*price/first;rent sum+age;wage sum*late;");
        x.force(0, 0, 0);
        x.paper(1, 1, 60, 4);
        x.paper(2, 203, 5, 2);
        x.paper(3, 2, 7, 12);
        x.paper(4, 1, 30, 20);
        x.paper(4, 3, 11, 60);
        x.paper(5, 102, 40, 100);
        x.paper(0, 201, 30, 0);
        return x;
    }

    /** Persons without papers, of whom some hunger. */
    private static MeltingMarks poor(int kind) {
        MeltingMarks x = new MeltingMarks();
        x.person(1000 * kind, 3, 0);
        x.person(30, 9, 2);
        x.person(5 + kind, 0, 0);
        for (int i = 0; i < kind; i++) {
            x.person(40, i, 1);
        }
        return x;
    }

    private static long hunger(MeltingMarks x) {
        long sum = 0;
        for (int i = 0; i < x.count(0); i++) {
            sum += x.personIs(i, 5);
        }
        return sum;
    }

    private static void toDay(MeltingMarks x, int day) {
        for (long left = day - x.count(3); left > 0; left = day - x.count(3)) {
            x.days((int) Math.min(30, left));
        }
    }
}
