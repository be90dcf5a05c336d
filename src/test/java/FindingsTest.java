import java.util.HashMap;
import java.util.Map;

/**
 * Each finding of each promise: the first value that is refused on each side, beside the last one that
 * is not; which finding is told where two could be; and that an act that answers one changes nothing.
 */
public final class FindingsTest {
    private static final Check C = new Check("FindingsTest");
    private static final long MOST = Check.MOST;
    private static final int LEAST_INT = Integer.MIN_VALUE;
    private static final int MOST_INT = Integer.MAX_VALUE;

    public static void main(String[] args) {
        scenesAreAsTold();
        person();
        habit();
        personIsAndGain();
        paperNumbers();
        paperWho();
        paperOrder();
        asAndPaperIs();
        owed();
        pay();
        payOfNothing();
        tear();
        feed();
        text();
        force();
        law();
        unlike();
        days();
        priceAndIndex();
        press();
        give();
        swap();
        need();
        melts();
        choices();
        proves();
        beside();
        sheet();
        put();
        copy();
        restore();
        count();
        withoutImage();
        C.end();
    }

    /** The call answers the finding, count(9) is one more, and all else is as in an object that was not called. */
    private static void refused(Scene scene, String call, long finding, Witness.Call of) {
        C.due(scene + ": " + call, of.on(scene.make()), finding);
        unchanged(scene + ": " + call, Witness.untouched(scene), Witness.after(scene, of));
        for (Scene other : new Scene[] {Scene.LIVELY, Scene.BARE}) {
            MeltingMarks x = other.make();
            long before = x.count(9);
            of.on(x);
            if (x.count(9) > before) {
                unchanged(other + ": " + call, Witness.untouched(other), Witness.after(other, of));
            }
        }
    }

    private static void unchanged(String call, Map<String, Long> before, Map<String, Long> now) {
        Map<String, Long> want = new HashMap<>(before);
        want.put("findings", before.get("findings") + 1);
        Map<String, String> unlike = Witness.unlike(want, now);
        C.holds(call + " changed " + unlike, unlike.isEmpty());
    }

    /** The call answers what is due, and that is no finding. */
    private static void allowed(Scene scene, String call, long want, Witness.Call of) {
        MeltingMarks x = scene.make();
        long before = x.count(9);
        C.due(scene + ": " + call, of.on(x), want);
        C.due(scene + ": no finding of " + call, x.count(9), before);
    }

    private static void scenesAreAsTold() {
        MeltingMarks x = Scene.RICH.make();
        long[] counts = {4, Scene.NEXT, 7, 3};
        for (int what = 0; what < counts.length; what++) {
            C.due("rich: count(" + what + ")", x.count(what), counts[what]);
        }
        C.due("rich: two findings", x.count(9), 2);
        C.due("rich: open debt", x.paperIs(Scene.DEBT, 6), 0);
        C.due("rich: void rent", x.paperIs(Scene.VOID_RENT, 6), 2);
        C.due("rich: paid paper", x.paperIs(Scene.PAID_PAPER, 6), 1);
        C.due("late", Scene.LATE.make().count(3), 270);
        C.due("eve", Scene.EVE.make().count(3), 299);
        C.due("end", Scene.END.make().count(3), 300);
        C.due("persons", Scene.PERSONS.make().count(0), 10);
        C.due("papers", Scene.PAPERS.make().count(1), 24);
        C.due("tape", Scene.TAPE.make().feed(1, ' '), 158);
        C.due("laws", Scene.LAWS.make().law(1, 300), 11);
    }

    // Promise 2. "BEYOND: a number isn't as told. FULL: there are 10."
    private static void person() {
        allowed(Scene.RICH, "person(0, 0, 0)", 4, x -> x.person(0, 0, 0));
        allowed(Scene.RICH, "person of the most", 4, x -> x.person(MOST, 9999, 99));
        for (long marks : new long[] {-1, MOST + 1, Long.MIN_VALUE, Long.MAX_VALUE}) {
            refused(Scene.RICH, "person marks " + marks, Check.BEYOND, x -> x.person(marks, 0, 0));
            refused(Scene.PERSONS, "person marks " + marks, Check.BEYOND, x -> x.person(marks, 0, 0));
        }
        for (int loaves : new int[] {-1, 10000, LEAST_INT, MOST_INT}) {
            refused(Scene.RICH, "person loaves " + loaves, Check.BEYOND, x -> x.person(0, loaves, 0));
            refused(Scene.PERSONS, "person loaves " + loaves, Check.BEYOND, x -> x.person(0, loaves, 0));
        }
        for (int bakes : new int[] {-1, 100, LEAST_INT, MOST_INT}) {
            refused(Scene.RICH, "person bakes " + bakes, Check.BEYOND, x -> x.person(0, 0, bakes));
            refused(Scene.PERSONS, "person bakes " + bakes, Check.BEYOND, x -> x.person(0, 0, bakes));
        }
        refused(Scene.PERSONS, "an eleventh person", Check.FULL, x -> x.person(0, 0, 0));
        for (int i = 0; i < 10; i++) {
            int number = i;
            allowed(Scene.NEW, "person " + number, number, x -> {
                for (int k = 0; k < number; k++) {
                    x.person(1, 1, 1);
                }
                return x.person(1, 1, 1);
            });
        }
    }

    // Promise 3. SPEND 0 to 10, KEEP 0 to 1000, BAKE 0 to 99; "BEYOND."
    private static void habit() {
        int[] most = {10, 1000, 99};
        int[] first = {5, 1000, 0};
        for (int w = 0; w < 3; w++) {
            int what = w;
            allowed(Scene.RICH, "habit " + what + " 0", first[what], x -> x.habit(3, what, 0));
            allowed(Scene.RICH, "habit " + what + " most", first[what], x -> x.habit(3, what, most[what]));
            for (int v : new int[] {-1, most[what] + 1, LEAST_INT, MOST_INT}) {
                refused(Scene.RICH, "habit " + what + " " + v, Check.BEYOND, x -> x.habit(0, what, v));
            }
            for (int p : new int[] {-1, 4, 10, LEAST_INT, MOST_INT}) {
                refused(Scene.RICH, "habit of person " + p, Check.BEYOND, x -> x.habit(p, what, 1));
            }
        }
        allowed(Scene.PERSONS, "habit of person 9", 1, x -> x.habit(9, 2, 0));
        for (int what : new int[] {-1, 3, LEAST_INT, MOST_INT}) {
            refused(Scene.RICH, "habit what " + what, Check.BEYOND, x -> x.habit(0, what, 1));
        }
        refused(Scene.NEW, "habit without a person", Check.BEYOND, x -> x.habit(0, 0, 1));
        refused(Scene.PERSONS, "habit of person 10", Check.BEYOND, x -> x.habit(10, 0, 1));
    }

    // Promises 4 and 5. "BEYOND: no such PERSON, or another what."
    private static void personIsAndGain() {
        allowed(Scene.PERSONS, "personIs(9, 0)", 90, x -> x.personIs(9, 0));
        allowed(Scene.PERSONS, "personIs(9, 7)", 0, x -> x.personIs(9, 7));
        allowed(Scene.PERSONS, "gain(9)", 0, x -> x.gain(9, false));
        allowed(Scene.PERSONS, "gain(0)", 0, x -> x.gain(0, true));
        for (int what : new int[] {-1, 8, LEAST_INT, MOST_INT}) {
            refused(Scene.RICH, "personIs what " + what, Check.BEYOND, x -> x.personIs(0, what));
        }
        for (int p : new int[] {-1, 4, 10, LEAST_INT, MOST_INT}) {
            refused(Scene.RICH, "personIs " + p, Check.BEYOND, x -> x.personIs(p, 0));
            refused(Scene.RICH, "gain " + p, Check.BEYOND, x -> x.gain(p, false));
            refused(Scene.RICH, "loss " + p, Check.BEYOND, x -> x.gain(p, true));
        }
        refused(Scene.PERSONS, "personIs 10", Check.BEYOND, x -> x.personIs(10, 0));
        refused(Scene.PERSONS, "gain 10", Check.BEYOND, x -> x.gain(10, false));
        refused(Scene.NEW, "personIs 0", Check.BEYOND, x -> x.personIs(0, 0));
        refused(Scene.NEW, "gain 0", Check.BEYOND, x -> x.gain(0, false));
    }

    // Promise 6. "BEYOND: kind, .. SUM, due." SUM 1 to MOST, due from THE DAY on, at most 300.
    private static void paperNumbers() {
        for (int k = 0; k < 6; k++) {
            int kind = k;
            allowed(Scene.RICH, "paper of kind " + kind, Scene.NEXT, x -> x.paper(kind, 1, 1, 3));
            allowed(Scene.RICH, "the most of kind " + kind, Scene.NEXT, x -> x.paper(kind, 1, MOST, 300));
            for (long sum : new long[] {0, -1, MOST + 1, Long.MIN_VALUE, Long.MAX_VALUE}) {
                refused(Scene.RICH, "paper sum " + sum, Check.BEYOND, x -> x.paper(kind, 1, sum, 9));
            }
            for (int due : new int[] {2, -1, 301, LEAST_INT, MOST_INT}) {
                refused(Scene.RICH, "paper due " + due, Check.BEYOND, x -> x.paper(kind, 1, 5, due));
            }
        }
        for (int kind : new int[] {-1, 6, LEAST_INT, MOST_INT}) {
            refused(Scene.RICH, "paper of kind " + kind, Check.BEYOND, x -> x.paper(kind, 1, 5, 9));
        }
        allowed(Scene.END, "due on the last day", 3, x -> x.paper(0, 1, 5, 300));
        refused(Scene.END, "due ahead of it", Check.BEYOND, x -> x.paper(0, 1, 5, 299));
        refused(Scene.END, "due behind it", Check.BEYOND, x -> x.paper(0, 1, 5, 301));
    }

    // Promise 6. "no such PERSON (who: 100 times BY, and TO; of a WAGE BY is 0)"; "SIZE: they are one (not of a WAGE)".
    private static void paperWho() {
        for (int k = 0; k < 6; k++) {
            int kind = k;
            for (int who : new int[] {4, 10, 99, 104, 400, 401, 1000, -1, -100, -101, LEAST_INT, MOST_INT}) {
                refused(Scene.RICH, "paper " + kind + " who " + who, Check.BEYOND, x -> x.paper(kind, who, 5, 9));
            }
            if (kind != 4) {
                for (int who : new int[] {0, 101, 202, 303}) {
                    refused(Scene.RICH, "paper " + kind + " who " + who, Check.SIZE, x -> x.paper(kind, who, 5, 9));
                }
                allowed(Scene.RICH, "who 3", Scene.NEXT, x -> x.paper(kind, 3, 5, 9));
                allowed(Scene.RICH, "who 300", Scene.NEXT, x -> x.paper(kind, 300, 5, 9));
                allowed(Scene.PERSONS, "who 908", 2, x -> x.paper(kind, 908, 5, 9));
                allowed(Scene.PERSONS, "who 809", 2, x -> x.paper(kind, 809, 5, 9));
                refused(Scene.PERSONS, "who 1009", Check.BEYOND, x -> x.paper(kind, 1009, 5, 9));
                refused(Scene.PERSONS, "who 910", Check.BEYOND, x -> x.paper(kind, 910, 5, 9));
            }
        }
        allowed(Scene.RICH, "a wage to person 0", Scene.NEXT, x -> x.paper(4, 0, 5, 9));
        allowed(Scene.RICH, "a wage to person 3", Scene.NEXT, x -> x.paper(4, 3, 5, 9));
        refused(Scene.RICH, "a wage by person 1", Check.BEYOND, x -> x.paper(4, 100, 5, 9));
        refused(Scene.RICH, "a wage by person 1 to itself", Check.BEYOND, x -> x.paper(4, 101, 5, 9));
        refused(Scene.NEW, "a wage to nobody", Check.BEYOND, x -> x.paper(4, 0, 5, 9));
        refused(Scene.NEW, "a paper of nobody", Check.BEYOND, x -> x.paper(0, 1, 5, 9));
    }

    // Promise 6: BEYOND, then SIZE, then FULL: "there are 24".
    private static void paperOrder() {
        refused(Scene.PAPERS, "a paper more", Check.FULL, x -> x.paper(0, 1, 5, 9));
        refused(Scene.PAPERS, "a wage more", Check.FULL, x -> x.paper(4, 0, 5, 9));
        refused(Scene.PAPERS, "one person ahead of full", Check.SIZE, x -> x.paper(0, 101, 5, 9));
        refused(Scene.PAPERS, "kind ahead of full", Check.BEYOND, x -> x.paper(6, 1, 5, 9));
        refused(Scene.PAPERS, "who ahead of full", Check.BEYOND, x -> x.paper(0, 2, 5, 9));
        refused(Scene.PAPERS, "sum ahead of full", Check.BEYOND, x -> x.paper(0, 1, 0, 9));
        refused(Scene.PAPERS, "due ahead of full", Check.BEYOND, x -> x.paper(0, 1, 5, 301));
        refused(Scene.RICH, "kind ahead of size", Check.BEYOND, x -> x.paper(6, 0, 5, 9));
        refused(Scene.RICH, "who ahead of size", Check.BEYOND, x -> x.paper(0, 404, 5, 9));
        refused(Scene.RICH, "sum ahead of size", Check.BEYOND, x -> x.paper(0, 0, 0, 9));
        refused(Scene.RICH, "due ahead of size", Check.BEYOND, x -> x.paper(0, 0, 5, 2));
        allowed(Scene.NEW, "the paper 23", 23, x -> {
            x.person(1, 1, 1);
            x.person(1, 1, 1);
            for (int i = 0; i < 23; i++) {
                x.paper(0, 1, 1, 0);
            }
            return x.paper(0, 1, 1, 0);
        });
    }

    // Promises 7 and 8. "KIND: it is not of that kind, nor of one under it." "BEYOND: no such PAPER, or another what."
    private static void asAndPaperIs() {
        for (int paper : new int[] {-1, Scene.NEXT, 24, LEAST_INT, MOST_INT}) {
            refused(Scene.RICH, "as " + paper, Check.BEYOND, x -> x.as(paper, 0));
            refused(Scene.RICH, "paperIs " + paper, Check.BEYOND, x -> x.paperIs(paper, 0));
        }
        for (int kind : new int[] {-1, 6, LEAST_INT, MOST_INT}) {
            refused(Scene.RICH, "as kind " + kind, Check.BEYOND, x -> x.as(0, kind));
        }
        int[][] unlike = {{Scene.PAPER, 1}, {Scene.PAPER, 5}, {Scene.DEBT, 2}, {Scene.DEBT, 3}, {Scene.DEBT, 4},
            {Scene.DEBT, 5}, {Scene.GOLD, 3}, {Scene.RENT, 2}, {Scene.RENT, 4}, {Scene.WAGE, 3}, {Scene.WAGE, 5},
            {Scene.TOWN, 1}, {Scene.TOWN, 4}, {Scene.VOID_RENT, 2}};
        for (int[] pair : unlike) {
            refused(Scene.RICH, "as(" + pair[0] + ", " + pair[1] + ")", Check.KIND, x -> x.as(pair[0], pair[1]));
        }
        for (int what : new int[] {-1, 7, LEAST_INT, MOST_INT}) {
            refused(Scene.RICH, "paperIs what " + what, Check.BEYOND, x -> x.paperIs(0, what));
        }
        allowed(Scene.RICH, "as(8, 0)", 8, x -> x.as(8, 0));
        allowed(Scene.RICH, "as(5, 5)", 5, x -> x.as(5, 5));
        allowed(Scene.PAPERS, "as(23, 5)", 23, x -> x.as(23, 5));
        allowed(Scene.PAPERS, "paperIs(23, 0)", 5, x -> x.paperIs(23, 0));
        allowed(Scene.RICH, "paperIs(0, 0)", 0, x -> x.paperIs(0, 0));
        allowed(Scene.RICH, "paperIs(8, 6)", 2, x -> x.paperIs(8, 6));
        allowed(Scene.RICH, "by of a wage", -1, x -> x.paperIs(Scene.WAGE, 1));
        refused(Scene.PAPERS, "as 24", Check.BEYOND, x -> x.as(24, 0));
        refused(Scene.NEW, "as 0", Check.BEYOND, x -> x.as(0, 0));
        refused(Scene.NEW, "paperIs 0", Check.BEYOND, x -> x.paperIs(0, 0));
    }

    // Promise 9. "BEYOND. NONE: it is not OPEN."
    private static void owed() {
        allowed(Scene.RICH, "owed by court 0", 40, x -> x.owed(Scene.PAPER, 0));
        allowed(Scene.RICH, "owed by court 1", 40, x -> x.owed(Scene.PAPER, 1));
        allowed(Scene.PAPERS, "owed of the last one", 28, x -> x.owed(23, 1));
        for (int court : new int[] {-1, 2, LEAST_INT, MOST_INT}) {
            refused(Scene.RICH, "owed court " + court, Check.BEYOND, x -> x.owed(Scene.DEBT, court));
            refused(Scene.RICH, "court ahead of none " + court, Check.BEYOND, x -> x.owed(Scene.PAID_PAPER, court));
        }
        for (int paper : new int[] {-1, Scene.NEXT, LEAST_INT, MOST_INT}) {
            refused(Scene.RICH, "owed of " + paper, Check.BEYOND, x -> x.owed(paper, 0));
        }
        for (int court = 0; court < 2; court++) {
            int by = court;
            refused(Scene.RICH, "owed of a paid one", Check.NONE, x -> x.owed(Scene.PAID_PAPER, by));
            refused(Scene.RICH, "owed of a void one", Check.NONE, x -> x.owed(Scene.VOID_RENT, by));
        }
    }

    // Promise 10. "BEYOND. NONE. KIND: it is a RENT or WAGE. LOW: BY has not so much."
    private static void pay() {
        for (int paper : new int[] {-1, Scene.NEXT, LEAST_INT, MOST_INT}) {
            refused(Scene.RICH, "pay " + paper, Check.BEYOND, x -> x.pay(paper));
        }
        refused(Scene.RICH, "pay a paid one", Check.NONE, x -> x.pay(Scene.PAID_PAPER));
        refused(Scene.RICH, "pay a void rent: none ahead of kind", Check.NONE, x -> x.pay(Scene.VOID_RENT));
        refused(Scene.RICH, "pay a void debt of one without marks: none ahead of low", Check.NONE,
            x -> x.pay(Scene.VOID_DEBT));
        refused(Scene.RICH, "pay a rent", Check.KIND, x -> x.pay(Scene.RENT));
        refused(Scene.RICH, "pay a wage", Check.KIND, x -> x.pay(Scene.WAGE));
        refused(Scene.PAPERS, "pay a rent", Check.KIND, x -> x.pay(21));
        // Laws of RICH: a DEBT of court 0 is SUM times PRICE.
        for (int k = 0; k < 6; k++) {
            int kind = k;
            if (kind == 3 || kind == 4) {
                continue;
            }
            allowed(Scene.NEW, "pay kind " + kind + " of all it has", 50, x -> {
                x.person(50, 0, 0);
                x.person(0, 0, 0);
                x.paper(kind, 1, 50, 0);
                return x.pay(0);
            });
            C.due("low by one of kind " + kind, lowByOne(kind), Check.LOW);
        }
        refused(Scene.RICH, "pay what it has not", Check.LOW, x -> x.pay(Scene.TOO_MUCH));
    }

    // KIND is asked ahead of LOW.
    private static void payOfNothing() {
        for (int kind = 0; kind < 6; kind++) {
            MeltingMarks x = new MeltingMarks();
            x.person(0, 0, 0);
            x.person(0, 0, 0);
            x.paper(kind, 1, 50, 0);
            C.due("pay kind " + kind + " of nothing", x.pay(0), kind == 3 || kind == 4 ? Check.KIND : Check.LOW);
            C.due("still open", x.paperIs(0, 6), 0);
            x.tear(0);
            C.due("pay kind " + kind + " that is void", x.pay(0), Check.NONE);
            C.due("findings", x.count(9), 2);
        }
    }

    private static long lowByOne(int kind) {
        MeltingMarks x = new MeltingMarks();
        x.person(49, 0, 0);
        x.person(0, 0, 0);
        x.paper(kind, 1, 50, 0);
        long answer = x.pay(0);
        C.due("still open", x.paperIs(0, 6), 0);
        C.due("nothing went", x.personIs(0, 0) * 1000 + x.personIs(1, 0), 49000);
        C.due("a finding", x.count(9), 1);
        return answer;
    }

    // Promise 11. "BEYOND. NONE."
    private static void tear() {
        for (int paper : new int[] {-1, Scene.NEXT, LEAST_INT, MOST_INT}) {
            refused(Scene.RICH, "tear " + paper, Check.BEYOND, x -> x.tear(paper));
        }
        refused(Scene.RICH, "tear a paid one", Check.NONE, x -> x.tear(Scene.PAID_PAPER));
        refused(Scene.RICH, "tear a void one", Check.NONE, x -> x.tear(Scene.VOID_DEBT));
        allowed(Scene.RICH, "tear a rent", 7, x -> x.tear(Scene.RENT));
        allowed(Scene.RICH, "tear a wage", 30, x -> x.tear(Scene.WAGE));
        allowed(Scene.PAPERS, "tear the last one", 28, x -> x.tear(23));
        refused(Scene.PAPERS, "tear 24", Check.BEYOND, x -> x.tear(24));
    }

    // Promise 13. "BEYOND: n is not 1 to 8. FULL." THE TAPE: "160 bytes at most".
    private static void feed() {
        for (int n : new int[] {0, 9, -1, LEAST_INT, MOST_INT}) {
            refused(Scene.RICH, "feed " + n, Check.BEYOND, x -> x.feed(n, 0x2020202020202020L));
            refused(Scene.TAPE, "feed " + n + " ahead of full", Check.BEYOND, x -> x.feed(n, 0x2020202020202020L));
        }
        for (int n = 4; n <= 8; n++) {
            int bytes = n;
            refused(Scene.TAPE, "feed " + n, Check.FULL, x -> x.feed(bytes, 0x2020202020202020L));
        }
        for (int n = 1; n <= 3; n++) {
            int bytes = n;
            allowed(Scene.TAPE, "feed " + n, 157 + n, x -> x.feed(bytes, 0x2020202020202020L));
        }
        for (int n = 1; n <= 8; n++) {
            int bytes = n;
            allowed(Scene.NEW, "feed " + n, n, x -> x.feed(bytes, -1));
            allowed(Scene.RICH, "feed " + n, 11 + n, x -> x.feed(bytes, -1));
        }
    }

    // Promise 14. "BEYOND: no such TEXT (THE TAPE stays)." A FAULT is no finding.
    private static void text() {
        for (int t : new int[] {-1, 5, LEAST_INT, MOST_INT}) {
            refused(Scene.RICH, "text " + t, Check.BEYOND, x -> x.text(t));
            refused(Scene.TAPE, "text " + t, Check.BEYOND, x -> x.text(t));
        }
        for (int t = 0; t < 5; t++) {
            int number = t;
            allowed(Scene.RICH, "text " + t + " with a fault", 11, x -> x.text(number));
            allowed(Scene.NEW, "text " + t, -1, x -> Check.tell(x, number, "debt 1;rent 2;wage 3;"));
        }
    }

    // Promise 15. "BEYOND. NONE: the TEXT was never told. FULL: there are 12."
    private static void force() {
        for (int t : new int[] {-1, 5, LEAST_INT, MOST_INT}) {
            refused(Scene.RICH, "force " + t, Check.BEYOND, x -> x.force(t, 0, 0));
            refused(Scene.LAWS, "force " + t + " ahead of full", Check.BEYOND, x -> x.force(t, 0, 0));
        }
        for (int court : new int[] {-1, 2, LEAST_INT, MOST_INT}) {
            refused(Scene.RICH, "force court " + court, Check.BEYOND, x -> x.force(0, court, 0));
            refused(Scene.RICH, "court ahead of none", Check.BEYOND, x -> x.force(2, court, 0));
            refused(Scene.LAWS, "court ahead of full", Check.BEYOND, x -> x.force(0, court, 0));
        }
        for (int day : new int[] {-1, 301, LEAST_INT, MOST_INT}) {
            refused(Scene.RICH, "force day " + day, Check.BEYOND, x -> x.force(0, 0, day));
            refused(Scene.RICH, "day ahead of none", Check.BEYOND, x -> x.force(2, 0, day));
            refused(Scene.LAWS, "day ahead of full", Check.BEYOND, x -> x.force(0, 0, day));
        }
        for (int t = 2; t < 5; t++) {
            int number = t;
            refused(Scene.RICH, "force " + t, Check.NONE, x -> x.force(number, 1, 3));
        }
        refused(Scene.LAWS, "none ahead of full", Check.NONE, x -> x.force(1, 0, 0));
        refused(Scene.LAWS, "a law more", Check.FULL, x -> x.force(0, 0, 0));
        refused(Scene.LAWS, "a law more of court 1", Check.FULL, x -> x.force(0, 1, 300));
        allowed(Scene.RICH, "force from day 0", 2, x -> x.force(1, 0, 0));
        allowed(Scene.RICH, "force from day 300", 2, x -> x.force(0, 1, 300));
        allowed(Scene.NEW, "the law 11", 11, x -> {
            Check.tell(x, 4, "debt 1;rent 2;wage 3;");
            for (int i = 0; i < 11; i++) {
                x.force(4, 0, 0);
            }
            return x.force(4, 0, 0);
        });
    }

    // Promise 16. "BEYOND. NONE: there is none."
    private static void law() {
        for (int court : new int[] {-1, 2, LEAST_INT, MOST_INT}) {
            refused(Scene.RICH, "law court " + court, Check.BEYOND, x -> x.law(court, 5));
            refused(Scene.NEW, "court ahead of none", Check.BEYOND, x -> x.law(court, 5));
        }
        for (int day : new int[] {-1, 301, LEAST_INT, MOST_INT}) {
            refused(Scene.RICH, "law day " + day, Check.BEYOND, x -> x.law(0, day));
            refused(Scene.NEW, "day ahead of none", Check.BEYOND, x -> x.law(0, day));
        }
        refused(Scene.RICH, "law of court 1 on day 1", Check.NONE, x -> x.law(1, 1));
        refused(Scene.NEW, "law of court 0 on day 300", Check.NONE, x -> x.law(0, 300));
        refused(Scene.NEW, "law of court 1 on day 0", Check.NONE, x -> x.law(1, 0));
        allowed(Scene.RICH, "law of court 1 on day 2", 1, x -> x.law(1, 2));
        allowed(Scene.RICH, "law of court 0 on day 0", 0, x -> x.law(0, 0));
        allowed(Scene.RICH, "law of court 1 on day 300", 1, x -> x.law(1, 300));
    }

    // Promise 17. "NONE."
    private static void unlike() {
        refused(Scene.NEW, "unlike without papers", Check.NONE, x -> x.unlike());
        refused(Scene.PAPERS, "unlike without laws", Check.NONE, x -> x.unlike());
        refusedBehind(Scene.LAWS, "unlike by one law of both", Check.NONE, x -> x.days(20), x -> x.unlike());
        allowed(Scene.RICH, "unlike", Scene.DEBT, x -> x.unlike());
    }

    /** As refused, where something goes ahead of what is refused. */
    private static void refusedBehind(Scene scene, String call, long finding, Witness.Call ahead, Witness.Call of) {
        Witness.Call both = x -> {
            ahead.on(x);
            return of.on(x);
        };
        C.due(scene + ": " + call, both.on(scene.make()), finding);
        unchanged(scene + ": " + call, Witness.after(scene, ahead), Witness.after(scene, both));
    }

    // FULL and MISSING of an object that has no IMAGE: there is none behind them.
    private static void withoutImage() {
        Witness.Call end = x -> {
            for (int i = 0; i < 9; i++) {
                x.days(30);
            }
            return x.days(25);
        };
        refusedBehind(Scene.BARE, "days", Check.FULL, end, x -> x.days(1));
        refusedBehind(Scene.BARE, "need", Check.FULL, end, x -> x.need(1));
        refusedBehind(Scene.BARE, "melts", Check.FULL, end, x -> x.melts(1));
        refusedBehind(Scene.BARE, "choices", Check.FULL, end, x -> x.choices(1, 0));
        refusedBehind(Scene.BARE, "beside", Check.FULL, end, x -> x.beside(0, 1, 1));
        refusedBehind(Scene.BARE, "proves", Check.FULL, end, x -> x.proves(9999, 0));
        for (int i = 0; i < 4; i++) {
            int s = i;
            int t = (i + 1) % 4;
            refusedBehind(Scene.BARE, "proves", Check.MISSING, x -> x.sheet(s, 0, 0), x -> x.proves(9999, s));
            refusedBehind(Scene.BARE, "put", Check.MISSING, x -> x.sheet(s, 0, 0), x -> x.put(s, 0, 1));
            refusedBehind(Scene.BARE, "copy of", Check.MISSING, x -> x.sheet(s, 0, 0), x -> x.copy(s, 0, t, 0, 1));
            refusedBehind(Scene.BARE, "copy to", Check.MISSING, x -> x.sheet(s, 0, 0), x -> x.copy(t, 0, s, 0, 1));
        }
        refusedBehind(Scene.BARE, "person", Check.FULL, x -> {
            for (int i = 0; i < 5; i++) {
                x.person(1, 2, 3);
            }
            return x.person(4, 5, 6);
        }, x -> x.person(7, 8, 9));
        refusedBehind(Scene.BARE, "paper", Check.FULL, x -> {
            for (int i = 0; i < 12; i++) {
                x.paper(i % 4, 103, 1 + i, 9);
            }
            return x.paper(5, 103, 14, 9);
        }, x -> x.paper(1, 103, 15, 9));
        refusedBehind(Scene.BARE, "force", Check.FULL, x -> {
            for (int i = 0; i < 7; i++) {
                x.force(i % 4, i % 2, 5 + i);
            }
            return x.force(1, 1, 12);
        }, x -> x.force(2, 0, 5));
        refusedBehind(Scene.BARE, "feed", Check.FULL, x -> Check.feedAll(x, " ".repeat(146)), x -> x.feed(8, 32));
    }

    // Promise 18. "n (1 to 30)"; "BEYOND. FULL: THE DAY would be above 300."
    private static void days() {
        for (int n : new int[] {0, -1, 31, LEAST_INT, MOST_INT}) {
            refused(Scene.RICH, "days " + n, Check.BEYOND, x -> x.days(n));
            refused(Scene.END, "days " + n + " ahead of full", Check.BEYOND, x -> x.days(n));
        }
        allowed(Scene.LATE, "days up to 300", 1, x -> sign(x.days(30)));
        allowed(Scene.EVE, "the last day", 1, x -> sign(x.days(1)));
        refused(Scene.EVE, "days 2", Check.FULL, x -> x.days(2));
        refused(Scene.EVE, "days 30", Check.FULL, x -> x.days(30));
        refused(Scene.END, "days 1", Check.FULL, x -> x.days(1));
    }

    private static long sign(long answer) {
        return Long.signum(answer);
    }

    // Promises 19 and 20. "BEYOND: it isn't 0 to THE DAY." "BEYOND as of price() (either)."
    private static void priceAndIndex() {
        for (int day : new int[] {-1, 4, 300, 301, LEAST_INT, MOST_INT}) {
            refused(Scene.RICH, "price " + day, Check.BEYOND, x -> x.price(day));
            refused(Scene.RICH, "index of " + day, Check.BEYOND, x -> x.index(day, 0));
            refused(Scene.RICH, "index by " + day, Check.BEYOND, x -> x.index(0, day));
        }
        refused(Scene.END, "price 301", Check.BEYOND, x -> x.price(301));
        refused(Scene.NEW, "price 1", Check.BEYOND, x -> x.price(1));
        allowed(Scene.RICH, "price 0", 1, x -> x.price(0));
        allowed(Scene.RICH, "price 3", 1, x -> sign(x.price(3)));
        allowed(Scene.RICH, "index(3, 0)", 0, x -> x.index(3, 0) - 100 * x.price(3));
        allowed(Scene.RICH, "index(0, 3)", 0, x -> x.index(0, 3) - 100 / x.price(3));
        allowed(Scene.END, "price 300", 1, x -> sign(x.price(300)));
        allowed(Scene.END, "index(300, 300)", 100, x -> x.index(300, 300));
    }

    // Promise 21. "n (0 to MOST)"; "BEYOND."
    private static void press() {
        for (long n : new long[] {-1, MOST + 1, Long.MIN_VALUE, Long.MAX_VALUE}) {
            refused(Scene.RICH, "press " + n, Check.BEYOND, x -> x.press(n));
        }
        allowed(Scene.NEW, "press 0", 0, x -> x.press(0));
        allowed(Scene.NEW, "press 1", 1, x -> x.press(1));
        allowed(Scene.NEW, "press most", MOST, x -> x.press(MOST));
    }

    // Promise 22. "n (1 to MOST)"; "BEYOND. LOW: THE STATE has not so much."
    private static void give() {
        for (long n : new long[] {0, -1, MOST + 1, Long.MIN_VALUE, Long.MAX_VALUE}) {
            refused(Scene.RICH, "give " + n, Check.BEYOND, x -> x.give(0, n));
        }
        for (int p : new int[] {-1, 4, LEAST_INT, MOST_INT}) {
            refused(Scene.RICH, "give to " + p, Check.BEYOND, x -> x.give(p, 1));
            refused(Scene.RICH, "person ahead of low " + p, Check.BEYOND, x -> x.give(p, MOST));
        }
        refused(Scene.NEW, "give to nobody", Check.BEYOND, x -> x.give(0, 1));
        refused(Scene.END, "the most on the last day", Check.LOW, x -> x.give(0, MOST));
        MeltingMarks poor = new MeltingMarks();
        poor.person(0, 0, 0);
        C.due("the state has nothing", poor.give(0, 1), Check.LOW);
        refused(Scene.RICH, "the most", Check.LOW, x -> x.give(0, MOST));
        refused(Scene.RICH, "one more than it has", Check.LOW, x -> x.give(0, x.count(4) + 1));
        allowed(Scene.RICH, "all that it has", 0, x -> {
            x.give(3, x.count(4));
            return x.count(4);
        });
        allowed(Scene.RICH, "one", 0, x -> x.personIs(1, 0) + 1 - x.give(1, 1));
    }

    // Promise 24. "k (1 to 9)"; "BEYOND: k."
    private static void swap() {
        for (int k : new int[] {0, -1, 10, LEAST_INT, MOST_INT}) {
            refused(Scene.RICH, "swap " + k, Check.BEYOND, x -> x.swap(k));
        }
        for (int k = 1; k < 10; k++) {
            int noughts = k;
            allowed(Scene.NEW, "swap " + k, 1, x -> x.swap(noughts));
        }
    }

    // Promise 25. "n days (1 to 30). BEYOND. FULL: THE DAY would be above 300."
    private static void need() {
        for (int n : new int[] {0, -1, 31, LEAST_INT, MOST_INT}) {
            refused(Scene.RICH, "need " + n, Check.BEYOND, x -> x.need(n));
            refused(Scene.END, "need " + n + " ahead of full", Check.BEYOND, x -> x.need(n));
        }
        refused(Scene.EVE, "need 2", Check.FULL, x -> x.need(2));
        refused(Scene.END, "need 1", Check.FULL, x -> x.need(1));
        allowed(Scene.EVE, "need 1", 0, x -> x.need(1));
        allowed(Scene.LATE, "need 30", 0, x -> x.need(30));
    }

    // Promise 26. "BEYOND, FULL as of need(). NONE: not in n days."
    private static void melts() {
        for (int n : new int[] {0, -1, 31, LEAST_INT, MOST_INT}) {
            refused(Scene.RICH, "melts " + n, Check.BEYOND, x -> x.melts(n));
            refused(Scene.END, "melts " + n + " ahead of full", Check.BEYOND, x -> x.melts(n));
        }
        refused(Scene.EVE, "melts 2: full ahead of none", Check.FULL, x -> x.melts(2));
        refused(Scene.END, "melts 1", Check.FULL, x -> x.melts(1));
        refused(Scene.EVE, "not in 1 day", Check.NONE, x -> x.melts(1));
        refused(Scene.LATE, "not in 30 days", Check.NONE, x -> x.melts(30));
        refused(Scene.NEW, "not without persons", Check.NONE, x -> x.melts(30));
    }

    // Promise 27. "BEYOND: n, what. FULL." n is 1 to 8.
    private static void choices() {
        for (int n : new int[] {0, -1, 9, 30, LEAST_INT, MOST_INT}) {
            refused(Scene.RICH, "choices " + n, Check.BEYOND, x -> x.choices(n, 0));
            refused(Scene.END, "n ahead of full " + n, Check.BEYOND, x -> x.choices(n, 0));
        }
        for (int what : new int[] {-1, 3, LEAST_INT, MOST_INT}) {
            refused(Scene.RICH, "choices what " + what, Check.BEYOND, x -> x.choices(2, what));
            refused(Scene.END, "what ahead of full " + what, Check.BEYOND, x -> x.choices(2, what));
        }
        for (int w = 0; w < 3; w++) {
            int what = w;
            refused(Scene.EVE, "choices of 2 days", Check.FULL, x -> x.choices(2, what));
            refused(Scene.END, "choices of 1 day", Check.FULL, x -> x.choices(1, what));
            allowed(Scene.EVE, "choices of 1 day", 0, x -> Math.min(0, x.choices(1, what)));
            allowed(Scene.RICH, "choices of 8 days", 0, x -> Math.min(0, x.choices(8, what)));
        }
    }

    // Promise 28. "BEYOND: v is not 0 to 9999, or no such sheet. MISSING. FULL."
    private static void proves() {
        for (int v : new int[] {-1, 10000, LEAST_INT, MOST_INT}) {
            refused(Scene.RICH, "proves v " + v, Check.BEYOND, x -> x.proves(v, 1));
            refused(Scene.RICH, "v ahead of missing " + v, Check.BEYOND, x -> x.proves(v, 3));
            refused(Scene.END, "v ahead of full " + v, Check.BEYOND, x -> x.proves(v, 1));
        }
        for (int s : new int[] {-1, 4, LEAST_INT, MOST_INT}) {
            refused(Scene.RICH, "proves sheet " + s, Check.BEYOND, x -> x.proves(0, s));
        }
        refused(Scene.RICH, "proves of a missing one", Check.MISSING, x -> x.proves(0, 3));
        refused(Scene.END, "missing on the last day", Check.MISSING, x -> x.proves(0, 3));
        refused(Scene.END, "one day", Check.FULL, x -> x.proves(9999, 0));
        refused(Scene.EVE, "20 days", Check.FULL, x -> x.proves(9999, 1));
        allowed(Scene.EVE, "one day", -1, x -> x.proves(9999, 0));
        allowed(Scene.END, "no days", -1, x -> x.proves(0, 2));
        allowed(Scene.RICH, "a number that is neither", 3, x -> x.proves(0, 0));
        allowed(Scene.RICH, "v 9999", -1, x -> x.proves(9999, 1));
        MeltingMarks x = Scene.EVE.make();
        x.put(1, 0, 5);
        C.due("full ahead of a number that is neither", x.proves(0, 1), Check.FULL);
    }

    // Promise 29. "n days (1 to 30) if v (0 to MOST)"; "BEYOND. FULL."
    private static void beside() {
        for (int p : new int[] {-1, 4, LEAST_INT, MOST_INT}) {
            refused(Scene.RICH, "beside person " + p, Check.BEYOND, x -> x.beside(p, 1, 1));
            refused(Scene.END, "person ahead of full " + p, Check.BEYOND, x -> x.beside(p, 1, 1));
        }
        for (long v : new long[] {-1, MOST + 1, Long.MIN_VALUE, Long.MAX_VALUE}) {
            refused(Scene.RICH, "beside v " + v, Check.BEYOND, x -> x.beside(0, v, 1));
            refused(Scene.END, "v ahead of full " + v, Check.BEYOND, x -> x.beside(0, v, 1));
        }
        for (int n : new int[] {0, -1, 31, LEAST_INT, MOST_INT}) {
            refused(Scene.RICH, "beside n " + n, Check.BEYOND, x -> x.beside(0, 1, n));
            refused(Scene.END, "n ahead of full " + n, Check.BEYOND, x -> x.beside(0, 1, n));
        }
        refused(Scene.NEW, "beside of nobody", Check.BEYOND, x -> x.beside(0, 1, 1));
        refused(Scene.EVE, "beside of 2 days", Check.FULL, x -> x.beside(0, 1, 2));
        refused(Scene.END, "beside of 1 day", Check.FULL, x -> x.beside(0, 1, 1));
        allowed(Scene.EVE, "beside of 1 day", 0, x -> x.beside(0, 0, 1));
        allowed(Scene.RICH, "v 0, 30 days", 0, x -> x.beside(3, 0, 30));
        allowed(Scene.RICH, "v most", 1, x -> sign(x.beside(0, MOST, 1)));
    }

    // Promise 30. "BEYOND: no such sheet, or bits. SIZE: n is below 0. BEYOND: n is above 20."
    private static void sheet() {
        for (int s : new int[] {-1, 4, LEAST_INT, MOST_INT}) {
            refused(Scene.RICH, "sheet " + s, Check.BEYOND, x -> x.sheet(s, 8, 5));
            refused(Scene.RICH, "no such one ahead of size", Check.BEYOND, x -> x.sheet(s, 8, -1));
        }
        for (int bits : new int[] {-8, -1, 1, 7, 9, 15, 17, 24, 31, 33, 64, LEAST_INT, MOST_INT}) {
            refused(Scene.RICH, "sheet bits " + bits, Check.BEYOND, x -> x.sheet(0, bits, 5));
            refused(Scene.RICH, "bits ahead of size", Check.BEYOND, x -> x.sheet(0, bits, -1));
        }
        for (int b : new int[] {0, 8, 16, 32}) {
            int bits = b;
            refused(Scene.RICH, "sheet n -1 of " + bits, Check.SIZE, x -> x.sheet(0, bits, -1));
            refused(Scene.RICH, "sheet n least of " + bits, Check.SIZE, x -> x.sheet(0, bits, LEAST_INT));
            refused(Scene.RICH, "sheet n 21 of " + bits, Check.BEYOND, x -> x.sheet(0, bits, 21));
            refused(Scene.RICH, "sheet n most of " + bits, Check.BEYOND, x -> x.sheet(0, bits, MOST_INT));
            allowed(Scene.RICH, "sheet n 0 of " + bits, 0, x -> x.sheet(0, bits, 0));
            allowed(Scene.RICH, "sheet n 20 of " + bits, bits == 0 ? 0 : 20, x -> x.sheet(3, bits, 20));
        }
    }

    // Promise 31. "BEYOND: no such sheet. MISSING. BEYOND: no such number."
    private static void put() {
        for (int s : new int[] {-1, 4, LEAST_INT, MOST_INT}) {
            refused(Scene.RICH, "put sheet " + s, Check.BEYOND, x -> x.put(s, 0, 2));
        }
        for (int i : new int[] {0, -1, 20, LEAST_INT, MOST_INT}) {
            refused(Scene.RICH, "put of a missing one at " + i, Check.MISSING, x -> x.put(3, i, 2));
            refused(Scene.END, "put of none at " + i, Check.BEYOND, x -> x.put(2, i, 2));
        }
        for (int i : new int[] {-1, 5, 20, LEAST_INT, MOST_INT}) {
            refused(Scene.RICH, "put at " + i, Check.BEYOND, x -> x.put(0, i, 2));
        }
        refused(Scene.RICH, "put at 20 of 20", Check.BEYOND, x -> x.put(2, 20, 2));
        allowed(Scene.RICH, "put at 0", 0, x -> x.put(0, 0, LEAST_INT));
        allowed(Scene.RICH, "put at 4 of 5", 0, x -> x.put(0, 4, MOST_INT));
        allowed(Scene.RICH, "put at 19 of 20", 0, x -> x.put(2, 19, -1));
    }

    // Promise 32. "BEYOND: no such sheet (either). MISSING: one is. KIND: .. BEYOND: one has not so many, or .."
    private static void copy() {
        for (int s : new int[] {-1, 4, LEAST_INT, MOST_INT}) {
            refused(Scene.RICH, "copy of " + s, Check.BEYOND, x -> x.copy(s, 0, 0, 0, 1));
            refused(Scene.RICH, "copy to " + s, Check.BEYOND, x -> x.copy(0, 0, s, 0, 1));
            refused(Scene.RICH, "beyond ahead of missing", Check.BEYOND, x -> x.copy(3, 0, s, 0, 1));
            refused(Scene.RICH, "beyond ahead of missing", Check.BEYOND, x -> x.copy(s, 0, 3, 0, 1));
        }
        refused(Scene.RICH, "copy of a missing one", Check.MISSING, x -> x.copy(3, 0, 0, 0, 1));
        refused(Scene.RICH, "copy to a missing one", Check.MISSING, x -> x.copy(0, 0, 3, 0, 1));
        refused(Scene.RICH, "copy of a missing one to itself", Check.MISSING, x -> x.copy(3, 0, 3, 0, 0));
        refused(Scene.RICH, "missing ahead of beyond", Check.MISSING, x -> x.copy(0, -1, 3, 0, 99));
        refused(Scene.RICH, "8 bits to 16", Check.KIND, x -> x.copy(0, 0, 1, 0, 1));
        refused(Scene.RICH, "16 bits to 32", Check.KIND, x -> x.copy(1, 0, 2, 0, 1));
        refused(Scene.RICH, "32 bits to 8", Check.KIND, x -> x.copy(2, 0, 0, 0, 0));
        refused(Scene.RICH, "kind ahead of beyond", Check.KIND, x -> x.copy(0, 0, 1, 0, 99));
        int[][] beyond = {{-1, 0, 1}, {0, -1, 1}, {0, 0, -1}, {-1, 0, 0}, {0, -1, 0}, {1, 0, 5}, {0, 1, 5}, {5, 0, 1},
            {0, 5, 1}, {6, 0, 0}, {0, 6, 0}, {0, 0, 6}, {MOST_INT, 0, 1}, {0, MOST_INT, 1}, {1, 1, MOST_INT},
            {MOST_INT, MOST_INT, MOST_INT}, {LEAST_INT, 0, 1}, {0, LEAST_INT, 1}, {0, 0, LEAST_INT}, {-1, -1, -1},
            {5, 5, -1}};
        for (int[] c : beyond) {
            refused(Scene.RICH, "copy " + c[0] + " " + c[1] + " " + c[2], Check.BEYOND,
                x -> x.copy(0, c[0], 0, c[1], c[2]));
        }
        allowed(Scene.RICH, "copy all", 5, x -> x.copy(0, 0, 0, 0, 5));
        allowed(Scene.RICH, "copy the last", 1, x -> x.copy(0, 4, 0, 0, 1));
        allowed(Scene.RICH, "copy to the last", 1, x -> x.copy(0, 0, 0, 4, 1));
        allowed(Scene.RICH, "copy none from the end", 0, x -> x.copy(0, 5, 0, 0, 0));
        allowed(Scene.RICH, "copy none to the end", 0, x -> x.copy(0, 0, 0, 5, 0));
        MeltingMarks x = Scene.LATE.make();
        C.due("as many as both have", x.copy(1, 19, 0, 0, 1), 1);
        C.due("the one copied from has too few", x.copy(0, 0, 1, 0, 2), Check.BEYOND);
        C.due("the one copied to has too few", x.copy(1, 0, 0, 0, 2), Check.BEYOND);
    }

    // Promise 34. "NONE: there is none."
    private static void restore() {
        refused(Scene.NEW, "restore", Check.NONE, x -> x.restore());
        refused(Scene.BARE, "restore", Check.NONE, x -> x.restore());
        allowed(Scene.RICH, "restore", 0, x -> x.restore());
        allowed(Scene.NEW, "image", 0, x -> x.image());
        allowed(Scene.NEW, "restore", 0, x -> {
            x.image();
            x.days(1);
            return x.restore();
        });
    }

    // Promise 35. "BEYOND: another what."; "this one, too, if it does".
    private static void count() {
        for (int what : new int[] {-1, 10, LEAST_INT, MOST_INT}) {
            refused(Scene.RICH, "count " + what, Check.BEYOND, x -> x.count(what));
        }
        for (int w = 0; w < 9; w++) {
            int what = w;
            allowed(Scene.NEW, "count " + what, 0, x -> x.count(what));
        }
        allowed(Scene.RICH, "count 9", 2, x -> x.count(9));
    }
}
