/** Promises 30 to 35. */
public final class SheetsTest {
    private static final Check C = new Check("SheetsTest");

    public static void main(String[] args) {
        sheet();
        put();
        copy();
        copyFindings();
        imageAndRestore();
        imageKeepsAll();
        imageKeepsPrices();
        personsAnew();
        imageLeavesOut();
        count();
        C.end();
    }

    private static void sheet() {
        MeltingMarks x = new MeltingMarks();
        C.due("sheet 4", x.sheet(4, 8, 1), Check.BEYOND);
        C.due("sheet -1", x.sheet(-1, 8, 1), Check.BEYOND);
        int[] bits = {-8, 1, 7, 9, 24, 64};
        for (int b : bits) {
            C.due("bits " + b, x.sheet(0, b, 1), Check.BEYOND);
        }
        C.due("n -1", x.sheet(0, 8, -1), Check.SIZE);
        C.due("n least", x.sheet(0, 8, Integer.MIN_VALUE), Check.SIZE);
        C.due("n 21", x.sheet(0, 8, 21), Check.BEYOND);
        C.due("n most", x.sheet(0, 8, Integer.MAX_VALUE), Check.BEYOND);
        C.due("beyond ahead of size", x.sheet(0, 7, -1), Check.BEYOND);
        C.due("still missing", x.put(0, 0, 0), Check.MISSING);
        C.due("none", x.sheet(0, 8, 0), 0);
        C.due("of none", x.put(0, 0, 0), Check.BEYOND);
        C.due("twenty", x.sheet(3, 32, 20), 20);
        C.due("the last", x.put(3, 19, 5), 0);
        C.due("one", x.sheet(1, 16, 1), 1);
        C.due("missing again", x.sheet(3, 0, 5), 0);
        C.due("missing again", x.put(3, 0, 0), Check.MISSING);
        C.due("size of a missing one", x.sheet(3, 0, -1), Check.SIZE);
        C.due("size of a missing one", x.sheet(3, 0, 21), Check.BEYOND);
        C.due("anew", x.sheet(3, 32, 20), 20);
        C.due("all 0", x.proves(0, 3), -1);
        x.put(3, 2, 7);
        C.due("7", x.proves(0, 3), 2);
        C.due("anew", x.sheet(3, 32, 20), 20);
        C.due("all 0", x.proves(0, 3), -1);
    }

    private static void put() {
        MeltingMarks x = new MeltingMarks();
        x.sheet(0, 8, 2);
        x.sheet(1, 16, 2);
        x.sheet(2, 32, 2);
        for (int s = 0; s < 3; s++) {
            C.due("put", x.put(s, 0, 1), 0);
            C.due("put", x.put(s, 1, 0), 0);
            C.due("it is", x.proves(0, s), -1);
            C.due("put", x.put(s, 1, 3), 0);
            C.due("it is", x.proves(0, s), 1);
            C.due("256", x.put(s, 1, 256), 0);
            C.due("of 8 bits 0", x.proves(0, s), s == 0 ? -1 : 1);
            C.due("65537", x.put(s, 1, 65537), 0);
            C.due("of 16 bits 1", x.proves(0, s), s < 2 ? -1 : 1);
            C.due("put 2", x.put(s, 2, 0), Check.BEYOND);
            C.due("put -1", x.put(s, -1, 0), Check.BEYOND);
            C.due("put most", x.put(s, Integer.MAX_VALUE, 0), Check.BEYOND);
        }
        C.due("missing", x.put(3, 0, 0), Check.MISSING);
        C.due("missing ahead of beyond", x.put(3, -1, 0), Check.MISSING);
        C.due("sheet 4", x.put(4, 0, 0), Check.BEYOND);
        C.due("sheet -1", x.put(-1, 0, 0), Check.BEYOND);
    }

    private static void copy() {
        MeltingMarks x = new MeltingMarks();
        x.sheet(0, 8, 5);
        x.sheet(1, 8, 3);
        x.put(0, 3, 9);
        C.due("copy", x.copy(0, 2, 1, 0, 3), 3);
        C.due("9 came to 1", x.proves(0, 1), 1);
        C.due("copy none", x.copy(0, 5, 1, 3, 0), 0);
        C.due("copy over it", x.copy(0, 0, 1, 1, 2), 2);
        C.due("9 is gone", x.proves(0, 1), -1);
        C.due("the first stays", x.proves(0, 0), 3);
        // In one sheet both ways: what is read is what stood there.
        x.sheet(2, 16, 5);
        x.put(2, 0, 7);
        C.due("upwards", x.copy(2, 0, 2, 1, 4), 4);
        x.put(2, 0, 0);
        C.due("7 stands at 1", x.proves(0, 2), 1);
        x.put(2, 1, 0);
        C.due("and nowhere else", x.proves(0, 2), -1);
        x.put(2, 4, 7);
        C.due("downwards", x.copy(2, 1, 2, 0, 4), 4);
        C.due("7 stands at 3", x.proves(0, 2), 3);
        x.put(2, 3, 0);
        C.due("and at 4", x.proves(0, 2), 4);
    }

    private static void copyFindings() {
        MeltingMarks x = new MeltingMarks();
        x.sheet(0, 8, 5);
        x.sheet(1, 8, 3);
        x.sheet(2, 16, 5);
        C.due("sheet 4", x.copy(4, 0, 1, 0, 1), Check.BEYOND);
        C.due("sheet -1", x.copy(0, 0, -1, 0, 1), Check.BEYOND);
        C.due("beyond ahead of missing", x.copy(3, 0, 4, 0, 1), Check.BEYOND);
        C.due("missing", x.copy(3, 0, 0, 0, 1), Check.MISSING);
        C.due("missing", x.copy(0, 0, 3, 0, 1), Check.MISSING);
        C.due("kind", x.copy(0, 0, 2, 0, 1), Check.KIND);
        C.due("kind ahead of beyond", x.copy(0, -1, 2, 0, 1), Check.KIND);
        C.due("from -1", x.copy(0, -1, 1, 0, 1), Check.BEYOND);
        C.due("to -1", x.copy(0, 0, 1, -1, 1), Check.BEYOND);
        C.due("n -1", x.copy(0, 0, 1, 0, -1), Check.BEYOND);
        C.due("not so many", x.copy(0, 3, 1, 0, 3), Check.BEYOND);
        C.due("not so many", x.copy(0, 0, 1, 1, 3), Check.BEYOND);
        C.due("n most", x.copy(0, 1, 1, 1, Integer.MAX_VALUE), Check.BEYOND);
        C.due("from most", x.copy(0, Integer.MAX_VALUE, 1, 0, 1), Check.BEYOND);
        C.due("to most", x.copy(0, 0, 1, Integer.MAX_VALUE, 1), Check.BEYOND);
        C.due("from behind all", x.copy(0, 6, 1, 0, 0), Check.BEYOND);
        C.due("to behind all", x.copy(0, 0, 1, 4, 0), Check.BEYOND);
        C.due("findings", x.count(9), 17);
    }

    private static void imageAndRestore() {
        MeltingMarks x = Check.ofPrices(2);
        C.due("none", x.restore(), Check.NONE);
        C.due("image", x.image(), 1);
        Check.goOn(x, 3, 5);
        C.due("restore", x.restore(), 1);
        C.due("day", x.count(3), 1);
        C.due("price of a day to come", x.price(2), Check.BEYOND);
        x.days(2);
        C.due("it stays", x.restore(), 1);
        x.days(5);
        C.due("the one before goes", x.image(), 6);
        x.days(5);
        C.due("restore", x.restore(), 6);
        C.due("restore again", x.restore(), 6);
    }

    private static void imageKeepsAll() {
        MeltingMarks x = new MeltingMarks();
        x.person(100, 11, 0);
        x.person(100, 0, 0);
        x.paper(1, 1, 60, 0);
        x.paper(5, 1, 70, 300);
        Check.tell(x, 0, "debt 5;rent 5;wage 5;");
        x.force(0, 1, 0);
        x.press(33);
        x.image();
        Check.tell(x, 0, "debt 6;rent 6;wage 6;");
        Check.tell(x, 1, "debt 7;rent 7;wage 7;");
        x.force(0, 1, 0);
        x.force(1, 0, 0);
        x.person(100, 0, 0);
        x.habit(0, 0, 1);
        x.habit(0, 1, 2);
        x.habit(0, 2, 3);
        x.paper(2, 201, 9, 300);
        x.pay(2);
        x.tear(1);
        x.pay(0);
        x.press(Check.MOST);
        x.give(1, 8);
        x.days(9);
        x.swap(1);
        C.due("restore", x.restore(), 0);
        long[] counts = {2, 2, 2, 0, 33, 200, 33, 0, 11, 0};
        for (int what = 0; what < 10; what++) {
            C.due("count(" + what + ")", x.count(what), counts[what]);
        }
        long[] person = {100, 11, 0, 5, 1000, 0, 0, 0};
        for (int what = 0; what < 8; what++) {
            C.due("personIs(0, " + what + ")", x.personIs(0, what), person[what]);
        }
        C.due("hunger", x.personIs(1, 5), 0);
        C.due("gain", x.gain(0, false), 0);
        C.due("loss", x.gain(1, true), 0);
        C.due("open", x.paperIs(0, 6), 0);
        C.due("sum", x.paperIs(1, 3), 70);
        C.due("owed", x.owed(0, 0), 60);
        C.due("law 0", x.owed(0, 1), 5);
        C.due("thin", x.thin(), 0);
        C.due("text 1 was never told", x.force(1, 0, 0), Check.NONE);
        C.due("law 1", x.force(0, 0, 0), 1);
        C.due("text 0", x.owed(0, 0), 5);
        C.due("person 2", x.person(0, 0, 0), 2);
        for (int what = 0; what < 8; what++) {
            C.due("anew " + what, x.personIs(2, what), what == 3 ? 5 : what == 4 ? 1000 : 0);
        }
        C.due("anew", x.gain(2, false), 0);
        C.due("paper 2", x.paper(0, 1, 3, 3), 2);
        C.due("anew", x.paperIs(2, 0), 0);
        C.due("anew", x.paperIs(2, 6), 0);
        C.due("the image stays", x.restore(), 0);
        C.due("no person 2", x.personIs(2, 0), Check.BEYOND);
        C.due("no paper 2", x.paperIs(2, 0), Check.BEYOND);
        C.due("no law of court 0", x.law(0, 0), Check.NONE);
    }

    private static void imageKeepsPrices() {
        MeltingMarks x = Check.ofPrices(2, 20, 200);
        x.image();
        x.swap(2);
        C.due("cut", x.price(3), 2);
        x.days(4);
        x.restore();
        long[] want = {1, 2, 20, 200};
        for (int day = 0; day < 4; day++) {
            C.due("price(" + day + ")", x.price(day), want[day]);
        }
        C.due("price(4)", x.price(4), Check.BEYOND);
        for (int day = 3; day < 300; day += 27) {
            x.days(27);
        }
        C.due("the last day", x.image(), 300);
        x.swap(1);
        C.due("cut", x.price(300), 20);
        x.restore();
        C.due("price(300)", x.price(300), 200);
        C.due("price(299)", x.price(299), 200);
    }

    /** Who sold, bought, hungered, gained and lost is anew in a person that takes such a one's number. */
    private static void personsAnew() {
        MeltingMarks x = new MeltingMarks();
        x.image();
        x.person(100, 9, 0);
        x.person(100, 0, 0);
        x.person(0, 0, 0);
        x.paper(1, 1, 5, 0);
        x.paper(1, 100, 7, 0);
        Check.tell(x, 0, "debt 3;rent 0;wage 0;");
        x.force(0, 0, 0);
        x.days(2);
        C.holds("sold", x.personIs(0, 6) > 0 && x.personIs(1, 7) > 0 && x.personIs(2, 5) == 2);
        C.due("gain", x.gain(0, false), 2);
        C.due("loss", x.gain(0, true), 4);
        x.restore();
        for (int i = 0; i < 3; i++) {
            C.due("person", x.person(0, 0, 0), i);
            for (int what = 5; what < 8; what++) {
                C.due("anew " + what, x.personIs(i, what), 0);
            }
            C.due("gain anew", x.gain(i, false), 0);
            C.due("loss anew", x.gain(i, true), 0);
        }
        C.due("paper", x.paper(0, 1, 5, 0), 0);
        C.due("open anew", x.paperIs(0, 6), 0);
    }

    private static void imageLeavesOut() {
        MeltingMarks x = new MeltingMarks();
        x.sheet(0, 8, 2);
        Check.feedAll(x, "debt 1;rent");
        x.days(0);
        x.image();
        x.put(0, 1, 3);
        x.sheet(1, 8, 1);
        Check.feedAll(x, " 2;wage 3;");
        x.days(0);
        C.due("restore", x.restore(), 0);
        C.due("sheets stay", x.proves(0, 0), 1);
        C.due("sheets stay", x.proves(0, 1), -1);
        C.due("the tape stays", x.text(0), -1);
        C.due("findings stay", x.count(9), 2);
        MeltingMarks y = new MeltingMarks();
        y.image();
        for (int s = 0; s < 4; s++) {
            y.sheet(s, 16, 5);
            y.put(s, 1 + s, 3);
        }
        y.restore();
        for (int s = 0; s < 4; s++) {
            C.due("sheet " + s + " stays", y.proves(0, s), 1 + s);
            y.sheet(s, 0, 0);
        }
        y.restore();
        for (int s = 0; s < 4; s++) {
            C.due("sheet " + s + " stays MISSING", y.proves(0, s), Check.MISSING);
        }
    }

    private static void count() {
        MeltingMarks x = new MeltingMarks();
        x.person(100, 11, 0);
        x.person(200, 5, 0);
        x.paper(1, 1, 60, 300);
        x.paper(1, 1, 60, 300);
        x.paper(4, 1, 60, 300);
        x.tear(0);
        x.press(70);
        x.habit(0, 0, 0);
        x.habit(1, 0, 0);
        x.days(2);
        // 14 OFFERED, nothing ASKED; the wage took 70, then 50 more were PRINTED.
        long[] want = {2, 3, 2, 2, 0, 420, 120, 0, 12, 0};
        for (int what = 0; what < 10; what++) {
            C.due("count(" + what + ")", x.count(what), want[what]);
        }
        C.due("count(10)", x.count(10), Check.BEYOND);
        C.due("count(-1)", x.count(-1), Check.BEYOND);
        C.due("findings", x.count(9), 2);
        x.days(31);
        x.person(-1, 0, 0);
        C.due("findings", x.count(9), 4);
    }
}
