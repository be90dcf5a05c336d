import java.util.Random;

/**
 * Promises 25 to 29 in small markets by a number: what is asked ahead is beside what comes in objects made
 * by the same calls. MARKS are few there, so that a TAX makes a PRICE or HUNGER another one, or ties two ways.
 */
public final class AheadRunsTest {
    private static final Check C = new Check("AheadRunsTest");
    private static final int MARKETS = 150;
    /** Of the best ways there, 6 and 9 or such: the least is neither the one with the earliest nor the latest TAXES. */
    private static final int[] TIES = {318, 1030, 1149, 1206, 1323, 1519, 1848, 2172};

    public static void main(String[] args) {
        for (int number = 0; number < MARKETS; number++) {
            MeltingMarks x = make(number);
            for (int n = 1; n <= 6; n++) {
                choices(x, number, n);
            }
            Random random = new Random(1000 + number);
            for (int i = 0; i < 8; i++) {
                proves(x, number, random);
                need(x, number, 1 + random.nextInt(30));
                melts(x, number, 1 + random.nextInt(30));
                beside(x, number, random);
            }
        }
        for (int number : TIES) {
            MeltingMarks x = make(number);
            choices(x, number, 4);
            choices(x, number, 5);
        }
        numbersOfLaterDays();
        C.end();
    }

    private static MeltingMarks make(int number) {
        Random random = new Random(number);
        MeltingMarks x = new MeltingMarks();
        int persons = 2 + random.nextInt(4);
        int rich = number % 3 == 0 ? 30 : number % 3 == 1 ? 200 : 3000;
        for (int i = 0; i < persons; i++) {
            x.person(random.nextInt(rich), random.nextInt(8), random.nextInt(3) == 0 ? random.nextInt(4) : 0);
            x.habit(i, 0, new int[] {0, 5, 10, 10, 7}[random.nextInt(5)]);
            if (random.nextInt(3) == 0) {
                x.habit(i, 1, random.nextInt(100));
            }
        }
        if (random.nextInt(3) > 0) {
            Check.tell(x, 0, "debt sum;rent sum;wage sum*(age=" + random.nextInt(5) + ")+(age=" + random.nextInt(8)
                + ")*" + random.nextInt(rich) + ";");
            x.force(0, 0, random.nextInt(3));
        }
        int papers = random.nextInt(5);
        for (int i = 0; i < papers; i++) {
            int by = random.nextInt(persons);
            int kind = 1 + random.nextInt(4);
            x.paper(kind, kind == 4 ? by : 100 * by + (by + 1) % persons, 1 + random.nextInt(rich), random.nextInt(30));
        }
        int days = random.nextInt(4);
        if (days > 0) {
            x.days(days);
        }
        return x;
    }

    private static long hunger(MeltingMarks x) {
        long sum = 0;
        for (int i = 0; i < x.count(0); i++) {
            sum += x.personIs(i, 5);
        }
        return sum;
    }

    /** Ways are gone through by their numbers, so the first of those alike is the least. */
    private static void choices(MeltingMarks x, int number, int n) {
        long leastHunger = -1;
        long leastPrice = 0;
        int best = 0;
        for (int way = 0; way < 1 << n; way++) {
            MeltingMarks y = make(number);
            long before = hunger(y);
            long price = 0;
            for (int k = 0; k < n; k++) {
                if ((way >> k & 1) == 1) {
                    y.tax();
                }
                price = y.days(1);
            }
            long hunger = hunger(y) - before;
            if (leastHunger < 0 || hunger < leastHunger || hunger == leastHunger && (price < leastPrice
                || price == leastPrice && Integer.bitCount(way) < Integer.bitCount(best))) {
                leastHunger = hunger;
                leastPrice = price;
                best = way;
            }
        }
        C.due(number + " choices(" + n + ", 0)", x.choices(n, 0), best);
        C.due(number + " choices(" + n + ", 1)", x.choices(n, 1), leastHunger);
        C.due(number + " choices(" + n + ", 2)", x.choices(n, 2), leastPrice);
    }

    private static void proves(MeltingMarks x, int number, Random random) {
        int n = 1 + random.nextInt(20);
        MeltingMarks y = make(number);
        long before = hunger(y);
        x.sheet(0, 16, n);
        for (int i = 0; i < n; i++) {
            if (random.nextBoolean()) {
                x.put(0, i, 1);
                y.tax();
            }
            y.days(1);
        }
        int hunger = (int) (hunger(y) - before);
        C.due(number + " proves(" + hunger + ") of " + n, x.proves(hunger, 0), -1);
        if (hunger > 0) {
            C.due(number + " proves(" + (hunger - 1) + ") of " + n, x.proves(hunger - 1, 0), n);
        }
    }

    private static void need(MeltingMarks x, int number, int n) {
        MeltingMarks y = make(number);
        long before = y.count(6);
        y.days(n);
        C.due(number + " need(" + n + ")", x.need(n), y.count(6) - before);
    }

    private static void melts(MeltingMarks x, int number, int n) {
        MeltingMarks y = make(number);
        long due = Check.NONE;
        for (int i = 1; i <= n && due < 0; i++) {
            long price = y.price((int) y.count(3));
            if (y.days(1) >= 2 * price) {
                due = i;
            }
        }
        C.due(number + " melts(" + n + ")", x.melts(n), due);
    }

    private static void beside(MeltingMarks x, int number, Random random) {
        int n = 1 + random.nextInt(30);
        int person = random.nextInt((int) x.count(0));
        int v = 1 + random.nextInt(500);
        MeltingMarks y = make(number);
        y.press(v);
        y.give(person, v);
        C.due(number + " beside(" + person + ", " + v + ", " + n + ")", x.beside(person, v, n),
            y.days(n) - make(number).days(n));
    }

    // Promise 28: "(1: a TAX ahead of that day, 0: none)", each number for a day of its own.
    private static void numbersOfLaterDays() {
        MeltingMarks x = alike();
        x.sheet(0, 8, 20);
        C.due("no tax", x.proves(20, 0), -1);
        C.due("no tax", x.proves(19, 0), 20);
        for (int day = 0; day < 20; day++) {
            x.put(0, day, 1);
            C.due("a tax ahead of " + day, x.proves(19, 0), -1);
            C.due("a tax ahead of " + day, x.proves(18, 0), 20);
            x.put(0, day, 0);
        }
        for (int day = 0; day < 20; day++) {
            C.due("a price of 10 on " + day, x.days(1), 10);
            C.due("person 1 has 101 again", x.personIs(1, 0), 101);
            C.due("person 2 hungers", x.personIs(2, 5), day + 1);
        }
    }

    /**
     * Twenty days alike: 101 and 9 MARKS for 11 loaves, so that person 2 can't pay for one; what person 0
     * is paid goes back by a DEBT, and person 1 keeps what it buys. With a TAX it is 91 and 9, and person 2 buys a loaf for all that it has.
     */
    private static MeltingMarks alike() {
        MeltingMarks x = new MeltingMarks();
        x.person(0, 1, 11);
        x.person(101, 0, 0);
        x.person(9, 0, 0);
        x.habit(0, 0, 0);
        x.habit(1, 0, 10);
        x.habit(1, 1, 0);
        x.habit(2, 0, 10);
        for (int day = 0; day < 20; day++) {
            x.paper(1, 1, 100, day);
        }
        return x;
    }
}
