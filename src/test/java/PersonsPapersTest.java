/** Promises 1 to 12. */
public final class PersonsPapersTest {
    private static final Check C = new Check("PersonsPapersTest");

    public static void main(String[] args) {
        newObject();
        person();
        habit();
        personIs();
        gain();
        noGainByOtherKinds();
        gainIsNoFinding();
        paper();
        paperFindingsInOrder();
        paperFull();
        asKinds();
        paperIs();
        owed();
        pay();
        payBurnsAndLow();
        tear();
        thin();
        C.end();
    }

    private static void newObject() {
        MeltingMarks x = new MeltingMarks();
        for (int what = 0; what < 10; what++) {
            C.due("new: count(" + what + ")", x.count(what), 0);
        }
        C.due("new: price(0)", x.price(0), 1);
        C.due("new: index(0, 0)", x.index(0, 0), 100);
        C.due("new: price(1)", x.price(1), Check.BEYOND);
        C.due("new: thin()", x.thin(), 0);
        C.due("new: tax()", x.tax(), 0);
        C.due("new: unlike()", x.unlike(), Check.NONE);
        C.due("new: law(0, 300)", x.law(0, 300), Check.NONE);
        C.due("new: law(1, 300)", x.law(1, 300), Check.NONE);
        C.due("new: restore()", x.restore(), Check.NONE);
        for (int s = 0; s < 4; s++) {
            C.due("new: put", x.put(s, 0, 0), Check.MISSING);
            C.due("new: proves", x.proves(0, s), Check.MISSING);
        }
        for (int t = 0; t < 5; t++) {
            C.due("new: force", x.force(t, 0, 0), Check.NONE);
        }
        C.due("new: text(0) of an empty tape", x.text(0), 0);
        C.due("new: days(30)", x.days(30), 1);
    }

    private static void person() {
        MeltingMarks x = new MeltingMarks();
        long[] marks = {-1, Check.MOST + 1, Long.MIN_VALUE, Long.MAX_VALUE};
        for (long m : marks) {
            C.due("person marks", x.person(m, 0, 0), Check.BEYOND);
        }
        int[] loaves = {-1, 10000, Integer.MIN_VALUE, Integer.MAX_VALUE};
        for (int l : loaves) {
            C.due("person loaves", x.person(0, l, 0), Check.BEYOND);
        }
        int[] bakes = {-1, 100, Integer.MIN_VALUE, Integer.MAX_VALUE};
        for (int b : bakes) {
            C.due("person bakes", x.person(0, 0, b), Check.BEYOND);
        }
        C.due("no person yet", x.count(0), 0);
        C.due("person most", x.person(Check.MOST, 9999, 99), 0);
        C.due("person least", x.person(0, 0, 0), 1);
        for (int i = 2; i < 10; i++) {
            C.due("person", x.person(i, i, i), i);
        }
        C.due("person full", x.person(0, 0, 0), Check.FULL);
        C.due("person wrong ahead of full", x.person(-1, 0, 0), Check.BEYOND);
        C.due("persons", x.count(0), 10);
        C.due("marks of all", x.count(5), Check.MOST + 44);
        C.due("loaves of all", x.count(8), 9999 + 44);
        C.due("findings", x.count(9), 14);
    }

    private static void habit() {
        MeltingMarks x = new MeltingMarks();
        x.person(0, 0, 7);
        C.due("spend was", x.habit(0, 0, 10), 5);
        C.due("spend was", x.habit(0, 0, 0), 10);
        C.due("keep was", x.habit(0, 1, 0), 1000);
        C.due("keep was", x.habit(0, 1, 1000), 0);
        C.due("bake was", x.habit(0, 2, 99), 7);
        C.due("bake was", x.habit(0, 2, 0), 99);
        C.due("spend", x.personIs(0, 3), 0);
        C.due("keep", x.personIs(0, 4), 1000);
        C.due("bake", x.personIs(0, 2), 0);
        C.due("spend 11", x.habit(0, 0, 11), Check.BEYOND);
        C.due("keep 1001", x.habit(0, 1, 1001), Check.BEYOND);
        C.due("bake 100", x.habit(0, 2, 100), Check.BEYOND);
        for (int what = 0; what < 3; what++) {
            C.due("habit -1", x.habit(0, what, -1), Check.BEYOND);
        }
        C.due("habit what 3", x.habit(0, 3, 1), Check.BEYOND);
        C.due("habit what -1", x.habit(0, -1, 1), Check.BEYOND);
        C.due("habit person 1", x.habit(1, 0, 1), Check.BEYOND);
        C.due("habit person -1", x.habit(-1, 0, 1), Check.BEYOND);
        C.due("findings change nothing", x.personIs(0, 3) + x.personIs(0, 4) + x.personIs(0, 2), 1000);
        C.due("findings", x.count(9), 10);
    }

    private static void personIs() {
        MeltingMarks x = new MeltingMarks();
        x.person(100, 11, 0);
        x.person(100, 0, 0);
        x.person(0, 0, 1);
        // 50 and 50 ASK for 10 loaves: 10 each, and person 1 buys 5 of person 0.
        C.due("days(1)", x.days(1), 10);
        long[][] want = {{150, 5, 0, 5, 1000, 0, 5, 0}, {50, 4, 0, 5, 1000, 0, 0, 5}, {0, 0, 1, 5, 1000, 0, 0, 0}};
        for (int i = 0; i < 3; i++) {
            for (int what = 0; what < 8; what++) {
                C.due("personIs(" + i + ", " + what + ")", x.personIs(i, what), want[i][what]);
            }
        }
        x.habit(2, 2, 0);
        x.days(3);
        C.due("hungered", x.personIs(2, 5), 3);
        C.due("personIs what 8", x.personIs(0, 8), Check.BEYOND);
        C.due("personIs what -1", x.personIs(0, -1), Check.BEYOND);
        C.due("personIs 3", x.personIs(3, 0), Check.BEYOND);
        C.due("personIs -1", x.personIs(-1, 0), Check.BEYOND);
    }

    private static void gain() {
        MeltingMarks x = Check.ofPrices();
        x.paper(1, 1, 7, 300);
        Check.goOn(x, 10);
        x.paper(1, 1, 25, 300);
        Check.goOn(x, 30);
        C.due("pay", x.pay(0), 7);
        // 7 by 1 less 7 by 30.
        C.due("gain of by", x.gain(0, false), 7);
        C.due("loss of to", x.gain(1, true), 7);
        C.due("loss of by", x.gain(0, true), 0);
        C.due("gain of to", x.gain(1, false), 0);
        x.press(20);
        x.give(0, 20);
        C.due("pay", x.pay(1), 25);
        // 25 by 10 less 25 by 30: 2 less 0.
        C.due("gain of both", x.gain(0, false), 9);
        C.due("loss of both", x.gain(1, true), 9);
        C.due("gain 2", x.gain(2, false), Check.BEYOND);
        C.due("gain -1", x.gain(-1, true), Check.BEYOND);
    }

    private static void noGainByOtherKinds() {
        MeltingMarks x = Check.ofPrices();
        x.paper(0, 1, 7, 300);
        x.paper(5, 1, 8, 300);
        Check.goOn(x, 10);
        x.press(10);
        x.give(0, 10);
        C.due("pay a paper", x.pay(0), 7);
        C.due("pay a town's note", x.pay(1), 8);
        C.due("no gain", x.gain(0, false), 0);
        C.due("no loss", x.gain(1, true), 0);
    }

    private static void gainIsNoFinding() {
        MeltingMarks x = new MeltingMarks();
        x.person(Check.MOST, 0, 0);
        x.person(0, 0, 0);
        C.due("text", Check.tell(x, 0, "debt sum*100000;rent 0;wage 0;"), -1);
        x.force(0, 0, 0);
        x.paper(1, 1, 10, 0);
        x.paper(0, 1, 10, 0);
        x.paper(5, 1, 10, 0);
        C.due("pay", x.pay(0), 1000000);
        C.due("pay paper", x.pay(1), 10);
        C.due("pay town", x.pay(2), 10);
        C.due("gain below 0", x.gain(0, false), -999990);
        C.due("loss below 0", x.gain(1, true), -999990);
        C.due("no findings", x.count(9), 0);
    }

    private static void paper() {
        MeltingMarks x = new MeltingMarks();
        x.person(10, 0, 0);
        x.person(10, 0, 0);
        C.due("paper 0", x.paper(0, 1, 1, 0), 0);
        C.due("paper 1", x.paper(1, 100, Check.MOST, 300), 1);
        C.due("paper 2", x.paper(2, 1, 5, 5), 2);
        C.due("paper 3", x.paper(3, 1, 5, 5), 3);
        C.due("wage to 0", x.paper(4, 0, 5, 5), 4);
        C.due("wage to 1", x.paper(4, 1, 5, 5), 5);
        C.due("paper 6", x.paper(5, 100, 5, 5), 6);
        C.due("papers", x.count(1), 7);
        C.due("open ones", x.count(2), 7);
        C.due("findings", x.count(9), 0);
    }

    private static void paperFindingsInOrder() {
        MeltingMarks x = new MeltingMarks();
        C.due("no persons", x.paper(4, 0, 5, 5), Check.BEYOND);
        x.person(10, 5, 0);
        x.person(10, 5, 0);
        C.due("kind 6", x.paper(6, 1, 5, 5), Check.BEYOND);
        C.due("kind -1", x.paper(-1, 1, 5, 5), Check.BEYOND);
        C.due("to 2", x.paper(1, 2, 5, 5), Check.BEYOND);
        C.due("by 2", x.paper(1, 200, 5, 5), Check.BEYOND);
        C.due("to 99", x.paper(1, 99, 5, 5), Check.BEYOND);
        C.due("who -1", x.paper(1, -1, 5, 5), Check.BEYOND);
        C.due("who -100", x.paper(1, -100, 5, 5), Check.BEYOND);
        C.due("who -100 of a wage", x.paper(4, -100, 5, 5), Check.BEYOND);
        C.due("who most", x.paper(1, Integer.MAX_VALUE, 5, 5), Check.BEYOND);
        C.due("who least", x.paper(1, Integer.MIN_VALUE, 5, 5), Check.BEYOND);
        C.due("wage by 1", x.paper(4, 100, 5, 5), Check.BEYOND);
        C.due("sum 0", x.paper(1, 1, 0, 5), Check.BEYOND);
        C.due("sum above most", x.paper(1, 1, Check.MOST + 1, 5), Check.BEYOND);
        C.due("due 301", x.paper(1, 1, 5, 301), Check.BEYOND);
        C.due("due -1", x.paper(1, 1, 5, -1), Check.BEYOND);
        x.days(2);
        C.due("due ahead of the day", x.paper(1, 1, 5, 1), Check.BEYOND);
        C.due("one person", x.paper(1, 101, 5, 5), Check.SIZE);
        C.due("one person", x.paper(5, 0, 5, 5), Check.SIZE);
        C.due("beyond ahead of size", x.paper(1, 0, 0, 5), Check.BEYOND);
        C.due("no papers", x.count(1), 0);
        C.due("due on the day", x.paper(1, 1, 5, 2), 0);
    }

    private static void paperFull() {
        MeltingMarks x = new MeltingMarks();
        x.person(10, 5, 0);
        x.person(10, 5, 0);
        for (int i = 0; i < 24; i++) {
            C.due("paper", x.paper(i % 6, 1, 5, 5), i);
        }
        C.due("full", x.paper(0, 1, 5, 5), Check.FULL);
        C.due("size ahead of full", x.paper(0, 0, 5, 5), Check.SIZE);
        C.due("beyond ahead of full", x.paper(6, 1, 5, 5), Check.BEYOND);
        x.tear(0);
        C.due("full by void ones too", x.paper(0, 1, 5, 5), Check.FULL);
        C.due("open ones", x.count(2), 23);
    }

    private static void asKinds() {
        MeltingMarks x = new MeltingMarks();
        x.person(10, 5, 0);
        x.person(10, 5, 0);
        for (int kind = 0; kind < 6; kind++) {
            x.paper(kind, 1, 5, 5);
        }
        String[] under = {"100000", "110000", "111000", "110100", "110010", "100001"};
        for (int p = 0; p < 6; p++) {
            for (int kind = 0; kind < 6; kind++) {
                C.due("as(" + p + ", " + kind + ")", x.as(p, kind), under[p].charAt(kind) == '1' ? p : Check.KIND);
            }
        }
        C.due("as(6, 0)", x.as(6, 0), Check.BEYOND);
        C.due("as(-1, 0)", x.as(-1, 0), Check.BEYOND);
        C.due("as(0, 6)", x.as(0, 6), Check.BEYOND);
        C.due("as(0, -1)", x.as(0, -1), Check.BEYOND);
        x.tear(1);
        C.due("as of a void one", x.as(1, 1), 1);
    }

    private static void paperIs() {
        MeltingMarks x = new MeltingMarks();
        x.person(10, 5, 0);
        x.person(10, 5, 0);
        x.days(3);
        x.paper(5, 100, 77, 9);
        x.paper(4, 1, 88, 300);
        long[] town = {5, 1, 0, 77, 3, 9, 0};
        long[] wage = {4, -1, 1, 88, 3, 300, 0};
        for (int what = 0; what < 7; what++) {
            C.due("town is " + what, x.paperIs(0, what), town[what]);
            C.due("wage is " + what, x.paperIs(1, what), wage[what]);
        }
        x.tear(1);
        C.due("void", x.paperIs(1, 6), 2);
        C.due("its sum", x.paperIs(1, 3), 88);
        C.due("what 7", x.paperIs(0, 7), Check.BEYOND);
        C.due("what -1", x.paperIs(0, -1), Check.BEYOND);
        C.due("paper 2", x.paperIs(2, 0), Check.BEYOND);
        C.due("paper -1", x.paperIs(-1, 0), Check.BEYOND);
        C.due("findings", x.count(9), 4);
    }

    private static void owed() {
        MeltingMarks x = Check.ofPrices(2, 3);
        for (int kind = 0; kind < 6; kind++) {
            x.paper(kind, 1, 50, 300);
        }
        x.paper(2, 1, Check.MOST / 3, 300);
        x.paper(2, 1, Check.MOST / 3 + 1, 300);
        x.paper(2, 1, Check.MOST, 300);
        for (int court = 0; court < 2; court++) {
            for (int p = 0; p < 6; p++) {
                C.due("owed without a law", x.owed(p, court), p == 2 ? 150 : 50);
            }
            C.due("gold just below most", x.owed(6, court), Check.MOST / 3 * 3);
            C.due("gold above most", x.owed(7, court), Check.MOST);
            C.due("gold far above most", x.owed(8, court), Check.MOST);
        }
        Check.tell(x, 0, "debt 1;rent 2;wage 3;");
        x.force(0, 1, 2);
        long[] want = {50, 1, 150, 2, 3, 50};
        for (int p = 0; p < 6; p++) {
            C.due("owed by court 1", x.owed(p, 1), want[p]);
            C.due("owed by court 0", x.owed(p, 0), p == 2 ? 150 : 50);
        }
        C.due("court 2", x.owed(0, 2), Check.BEYOND);
        C.due("court -1", x.owed(0, -1), Check.BEYOND);
        C.due("paper 9", x.owed(9, 0), Check.BEYOND);
        C.due("paper -1", x.owed(-1, 0), Check.BEYOND);
        x.tear(0);
        C.due("void", x.owed(0, 0), Check.NONE);
        C.due("beyond ahead of none", x.owed(0, 2), Check.BEYOND);
    }

    private static void pay() {
        MeltingMarks x = new MeltingMarks();
        x.person(100, 5, 0);
        x.person(10, 5, 0);
        for (int kind = 0; kind < 6; kind++) {
            x.paper(kind, 1, 20, 300);
        }
        Check.tell(x, 0, "debt 3;rent 2;wage 1;");
        x.force(0, 0, 0);
        C.due("pay paper", x.pay(0), 20);
        C.due("pay debt by the law", x.pay(1), 3);
        C.due("pay gold", x.pay(2), 20);
        C.due("pay rent", x.pay(3), Check.KIND);
        C.due("pay wage", x.pay(4), Check.KIND);
        C.due("pay town", x.pay(5), 20);
        C.due("by", x.personIs(0, 0), 37);
        C.due("to", x.personIs(1, 0), 73);
        // 20 less 3, and 20 less 20: PAPER and TOWN are no DEBTS.
        C.due("gain", x.gain(0, false), 17);
        C.due("loss", x.gain(1, true), 17);
        for (int p = 0; p < 6; p++) {
            C.due("state of " + p, x.paperIs(p, 6), p == 3 || p == 4 ? 0 : 1);
        }
        C.due("paid again", x.pay(0), Check.NONE);
        x.tear(3);
        C.due("none ahead of kind", x.pay(3), Check.NONE);
        C.due("pay(6)", x.pay(6), Check.BEYOND);
        C.due("pay(-1)", x.pay(-1), Check.BEYOND);
    }

    private static void payBurnsAndLow() {
        MeltingMarks x = new MeltingMarks();
        x.person(100, 5, 0);
        x.person(Check.MOST - 30, 5, 0);
        x.paper(1, 1, 100, 300);
        x.paper(1, 1, 1, 300);
        x.paper(0, 100, Check.MOST - 29, 300);
        C.due("low", x.pay(2), Check.LOW);
        C.due("low changes nothing", x.paperIs(2, 6), 0);
        C.due("all it has", x.pay(0), 100);
        C.due("by", x.personIs(0, 0), 0);
        C.due("to has the most", x.personIs(1, 0), Check.MOST);
        C.due("burnt", x.count(7), 70);
        C.due("low by one", x.pay(1), Check.LOW);
        C.due("now enough", x.pay(2), Check.MOST - 29);
    }

    private static void tear() {
        MeltingMarks x = new MeltingMarks();
        x.person(100, 5, 0);
        x.person(100, 5, 0);
        x.paper(4, 1, 30, 300);
        x.paper(1, 1, 40, 0);
        C.due("tear", x.tear(0), 30);
        C.due("tear", x.tear(1), 40);
        C.due("void", x.paperIs(0, 6), 2);
        C.due("tear again", x.tear(0), Check.NONE);
        C.due("tear(2)", x.tear(2), Check.BEYOND);
        C.due("tear(-1)", x.tear(-1), Check.BEYOND);
        x.habit(0, 0, 0);
        x.habit(1, 0, 0);
        x.days(1);
        C.due("no wage of a void one", x.personIs(1, 0), 100);
        C.due("no debt of a void one", x.personIs(0, 0), 100);
        C.due("stays void", x.paperIs(1, 6), 2);
    }

    private static void thin() {
        MeltingMarks x = new MeltingMarks();
        x.person(100, 5, 0);
        x.person(0, 5, 0);
        x.person(Check.MOST, 5, 0);
        x.paper(5, 1, 60, 300);
        x.paper(5, 2, 40, 300);
        C.due("as much as its marks", x.thin(), 0);
        x.paper(0, 1, 500, 300);
        x.paper(1, 1, 500, 300);
        C.due("other papers are no notes", x.thin(), 0);
        x.paper(5, 1, 1, 300);
        C.due("one more", x.thin(), 1);
        x.paper(5, 100, 1, 300);
        C.due("two", x.thin(), 3);
        x.paper(5, 200, Check.MOST, 300);
        x.paper(5, 201, 1, 300);
        C.due("three", x.thin(), 7);
        x.tear(4);
        C.due("void ones don't count", x.thin(), 6);
        x.pay(0);
        // 40 are left, and 40 of notes.
        C.due("paid ones don't count", x.thin(), 4);
    }
}
