import java.util.HashMap;
import java.util.Map;

/**
 * An act changes what its promise says and nothing else ("Nothing is promised beyond the answers and state
 * changes described above"): all that can be asked of an object is beside that of one that was not called.
 */
public final class NothingElseTest {
    private static final Check C = new Check("NothingElseTest");
    private static final Scene[] BOTH = {Scene.LIVELY, Scene.BARE};
    private static final long STATE = Check.MOST - 1344;
    private static final long MARKS = 2897;
    /** What the days to come bring is another thing by most acts; other tests say what. */
    private static final String LATER = "later: .*";

    public static void main(String[] args) {
        scenesAreAsTold();
        for (Scene scene : BOTH) {
            asksOfPersons(scene);
            asksOfPapers(scene);
            asksOfLawsAndDays(scene);
            asksAhead(scene);
            person(scene);
            habit(scene);
            paper(scene);
            pay(scene);
            tear(scene);
            unlikeNone(scene);
            textOf(scene);
            force(scene);
            days(scene);
            press(scene);
            give(scene);
            tax(scene);
            swap(scene);
            sheet(scene);
            put(scene);
            image(scene);
        }
        feed();
        textWithFault();
        copy();
        restore();
        C.end();
    }

    /**
     * The call answers what is due. Changed is "name=value", or names alone (a regular expression), which
     * may be told otherwise; all other names are told as if nothing had been called.
     */
    private static void changes(Scene scene, String call, long want, Witness.Call act, String... changed) {
        C.due(scene + ": " + call, act.on(scene.make()), want);
        changes(scene + ": " + call, Witness.untouched(scene), Witness.after(scene, act), changed);
    }

    private static void changes(String call, Map<String, Long> before, Map<String, Long> now, String... changed) {
        Map<String, Long> want = new HashMap<>(before);
        Map<String, Long> told = new HashMap<>();
        for (String one : changed) {
            int at = one.indexOf('=');
            if (at > 0) {
                told.put(one.substring(0, at), Long.parseLong(one.substring(at + 1)));
            }
        }
        want.putAll(told);
        Map<String, String> unlike = Witness.unlike(want, now);
        for (String one : changed) {
            if (one.indexOf('=') < 0) {
                unlike.keySet().removeIf(name -> name.matches(one) && !told.containsKey(name));
            }
        }
        C.holds(call + " changed " + unlike, unlike.isEmpty());
    }

    /** The call answers no finding and changes nothing. */
    private static void asks(Scene scene, String call, Witness.Call act) {
        changes(scene + ": " + call, Witness.untouched(scene), Witness.after(scene, act));
    }

    private static void scenesAreAsTold() {
        String[] both = {"count 0=4", "count 1=11", "count 2=7", "count 3=5", "count 7=12", "gain 0=20", "gain 1=0",
            "gain 2=49", "gain 3=0", "loss 0=0", "loss 1=20", "loss 2=0", "loss 3=49", "thin=4", "unlike=4",
            "count 4=" + STATE, "count 5=" + MARKS, "count 6=1000000000000012", "person 3 is 5=1"};
        told(Scene.LIVELY, both);
        told(Scene.BARE, both);
        told(Scene.LIVELY, "findings=2", "restore=1", "image: count 1=9", "tape=12", "tape as a text=-1",
            "sheet 0 number 0=1", "sheet 0 number 1=-1", "sheet 0 number 3=0", "sheet 1 number 0=-1",
            "sheet 2 number 18=-1", "sheet 3 of 8=-100002");
        told(Scene.BARE, "findings=1", "restore=-100006", "tape=8", "tape as a text=8", "sheet 0 number 1=-1",
            "sheet 1 number 1=-1", "sheet 2 number 19=-1", "sheet 3 of 16=0", "sheet 3 number 2=-1");
        // SPEND, KEEP and BAKE; kind, BY, TO, SUM, since, due and what it is; laws and texts.
        int[][] habits = {{3, 6, 1000}, {0, 7, 1000}, {2, 5, 30}, {1, 5, 1000}};
        int[][] papers = {{1, 0, 1, 20, 0, 300, 1}, {2, 1, 2, 30, 0, 300, 1}, {1, 2, 3, 50, 0, 300, 1},
            {0, 0, 1, 40, 1, 9, 0}, {1, 0, 1, 60, 1, 8, 0}, {2, 1, 0, 5, 1, 30, 0}, {3, 2, 1, 7, 1, 12, 0},
            {4, -1, 3, 9, 1, 8, 0}, {5, 2, 3, 900, 1, 100, 0}, {1, 3, 1, 15, 4, 200, 2}, {1, 0, 2, 16, 4, 200, 0}};
        for (Scene scene : BOTH) {
            for (int i = 0; i < habits.length; i++) {
                for (int what = 0; what < 3; what++) {
                    told(scene, "person " + i + " is " + (2 + what) + "=" + habits[i][what]);
                }
            }
            for (int i = 0; i < papers.length; i++) {
                for (int what = 0; what < 7; what++) {
                    told(scene, "paper " + i + " is " + what + "=" + papers[i][what]);
                }
            }
            told(scene, "law 0 on 0=-100006", "law 0 on 1=1", "law 0 on 6=1", "law 0 on 19=2", "law 1 on 1=-100006",
                "law 1 on 2=0", "law 1 on 5=0", "law 1 on 6=3", "text 0=4", "text 1=5", "text 2=6", "text 3=7",
                "text 4=-100006", "owed 4 by 0=61", "owed 4 by 1=2400", "later: 1 owed 4 by 1=31",
                "later: 2 owed 4 by 0=31", "text 0 of 4=66", "text 1 of 4=61", "text 2 of 4=21", "text 3 of 4=31");
        }
    }

    private static void told(Scene scene, String... due) {
        Map<String, Long> told = Witness.untouched(scene);
        for (String one : due) {
            int at = one.indexOf('=');
            C.holds(scene + ": " + one + " is " + told.get(one.substring(0, at)),
                one.substring(at + 1).equals("" + told.get(one.substring(0, at))));
        }
    }

    private static void asksOfPersons(Scene scene) {
        for (int p = 0; p < 4; p++) {
            int person = p;
            for (int w = 0; w < 8; w++) {
                int what = w;
                asks(scene, "personIs", x -> x.personIs(person, what));
            }
            asks(scene, "gain", x -> x.gain(person, false));
            asks(scene, "loss", x -> x.gain(person, true));
        }
        asks(scene, "thin", x -> x.thin());
        for (int w = 0; w < 10; w++) {
            int what = w;
            asks(scene, "count", x -> x.count(what));
        }
    }

    private static void asksOfPapers(Scene scene) {
        for (int p = 0; p <= Scene.LIVELY_LAST; p++) {
            int paper = p;
            for (int w = 0; w < 7; w++) {
                int what = w;
                asks(scene, "paperIs", x -> x.paperIs(paper, what));
            }
            asks(scene, "as", x -> x.as(paper, 0));
            if (scene.make().paperIs(paper, 6) == 0) {
                asks(scene, "owed", x -> x.owed(paper, 0));
                asks(scene, "owed", x -> x.owed(paper, 1));
            }
        }
        asks(scene, "unlike", x -> x.unlike());
    }

    private static void asksOfLawsAndDays(Scene scene) {
        asks(scene, "law", x -> x.law(0, 5));
        asks(scene, "law", x -> x.law(0, 300));
        asks(scene, "law", x -> x.law(1, 5));
        asks(scene, "price", x -> x.price(0));
        asks(scene, "price", x -> x.price(5));
        asks(scene, "index", x -> x.index(5, 0));
        asks(scene, "index", x -> x.index(0, 5));
    }

    // "what THE STATE would PRINT", "all as it would go": nothing of it goes.
    private static void asksAhead(Scene scene) {
        for (int d = 1; d <= 30; d++) {
            int n = d;
            asks(scene, "need", x -> x.need(n));
            asks(scene, "beside", x -> x.beside(n % 4, 1000, n));
        }
        asks(scene, "beside", x -> x.beside(2, Check.MOST, 3));
        for (int d = 1; d <= 8; d++) {
            int n = d;
            asks(scene, "choices", x -> x.choices(n, n % 3));
        }
        if (scene == Scene.LIVELY) {
            asks(scene, "proves", x -> x.proves(0, 0));
            asks(scene, "proves", x -> x.proves(9999, 1));
            asks(scene, "proves", x -> x.proves(9999, 2));
        } else {
            asks(scene, "proves", x -> x.proves(0, 3));
            asks(scene, "proves", x -> x.proves(9999, 3));
        }
        Witness.Call sheet = x -> x.sheet(1, 8, 4) + x.put(1, 2, 1);
        Witness.Call proved = x -> x.sheet(1, 8, 4) + x.put(1, 2, 1) + x.proves(9999, 1);
        C.due("proves", proved.on(scene.make()), 4 - 1);
        changes(scene + ": proves", Witness.after(scene, sheet), Witness.after(scene, proved));
        Witness.Call notProved = x -> x.sheet(1, 8, 4) + x.put(1, 2, 1) + x.habit(0, 2, 0) + x.proves(0, 1);
        Witness.Call notAsked = x -> x.sheet(1, 8, 4) + x.put(1, 2, 1) + x.habit(0, 2, 0);
        changes(scene + ": proves not", Witness.after(scene, notAsked), Witness.after(scene, notProved));
        Witness.Call rich = x -> x.give(0, 1000000);
        Witness.Call asked = x -> {
            x.give(0, 1000000);
            return x.melts(1);
        };
        C.due("melts", asked.on(scene.make()), 1);
        changes(scene + ": melts", Witness.after(scene, rich), Witness.after(scene, asked));
    }

    private static void person(Scene scene) {
        changes(scene, "person", 4, x -> x.person(70, 8, 9), "count 0=5", "count 5=" + (MARKS + 70), "count 8=49",
            "person 4 is 0=70", "person 4 is 1=8", "person 4 is 2=9", "person 4 is 3=5", "person 4 is 4=1000",
            "person 4 is 5=0", "person 4 is 6=0", "person 4 is 7=0", "gain 4=0", "loss 4=0", LATER);
    }

    private static void habit(Scene scene) {
        int[] is = {3, 4, 2};
        long[][] was = {{6, 1000, 3}, {7, 1000, 0}, {5, 30, 2}, {5, 1000, 1}};
        for (int p = 0; p < 4; p++) {
            for (int w = 0; w < 3; w++) {
                int person = p;
                int what = w;
                changes(scene, "habit " + person + " " + what, was[person][what], x -> x.habit(person, what, 9),
                    "person " + person + " is " + is[what] + "=9", LATER);
            }
        }
    }

    private static void paper(Scene scene) {
        int number = Scene.LIVELY_LAST + 1;
        for (int k = 0; k < 6; k++) {
            int kind = k;
            int who = kind == 4 ? 3 : 103;
            changes(scene, "paper " + kind, number, x -> x.paper(kind, who, 77, 9), "count 1=12", "count 2=8",
                "paper 11 is 0=" + kind, "paper 11 is 1=" + (kind == 4 ? -1 : 1), "paper 11 is 2=3", "paper 11 is 3=77",
                "paper 11 is 4=5", "paper 11 is 5=9", "paper 11 is 6=0", ".*owed 11 by .", "text . of 11", LATER);
        }
        changes(scene, "a town of 1000", number, x -> x.paper(5, 103, 1000, 9), "count 1=12", "count 2=8", "thin=6",
            "paper 11 is .", ".*owed 11 by .", "text . of 11", LATER);
    }

    /** The marks of BY and TO, and THE paper's state; nothing else but what follows of these. */
    private static void pay(Scene scene) {
        int[] papers = {Scene.LIVELY_PAPER, Scene.LIVELY_DEBT, Scene.LIVELY_GOLD, Scene.LIVELY_LAST};
        for (int paper : papers) {
            MeltingMarks x = scene.make();
            long by = x.paperIs(paper, 1);
            long to = x.paperIs(paper, 2);
            long sum = x.owed(paper, 0);
            boolean gain = paper != Scene.LIVELY_PAPER;
            long won = gain ? x.paperIs(paper, 3) / x.price((int) x.paperIs(paper, 4)) - sum / x.price(5) : 0;
            changes(scene, "pay " + paper, sum, y -> y.pay(paper), "count 2=6", "paper " + paper + " is 6=1",
                "person " + by + " is 0=" + (x.personIs((int) by, 0) - sum),
                "person " + to + " is 0=" + (x.personIs((int) to, 0) + sum),
                "gain " + by + "=" + (x.gain((int) by, false) + won), "loss " + to + "=" + (x.gain((int) to, true) + won),
                ".*owed " + paper + " by .", "text . of " + paper, "unlike", LATER);
        }
        changes(scene, "pay the town", 900, x -> {
            x.give(2, 200);
            return x.pay(Scene.LIVELY_TOWN);
        }, "count 2=6", "count 4=" + (STATE - 200), "count 5=" + (MARKS + 200), "paper 8 is 6=1", "person 2 is 0=63",
            "person 3 is 0=958", "thin=0", ".*owed 8 by .", "text . of 8", LATER);
    }

    private static void tear(Scene scene) {
        int[] sums = {40, 60, 5, 7, 9, 900};
        for (int i = 0; i < sums.length; i++) {
            int paper = Scene.LIVELY_PAPER + i;
            changes(scene, "tear " + paper, sums[i], x -> x.tear(paper), "count 2=6", "paper " + paper + " is 6=2",
                "owed " + paper + " by 0=-100006", "owed " + paper + " by 1=-100006",
                "thin=" + (paper == Scene.LIVELY_TOWN ? 0 : 4), "unlike=" + (paper == Scene.LIVELY_DEBT ? 6 : 4),
                ".*owed " + paper + " by .", "text . of " + paper, LATER);
        }
    }

    // Promise 17. "NONE": that is a finding, and nothing but count(9) changes by it.
    private static void unlikeNone(Scene scene) {
        Witness.Call torn = x -> x.tear(4) + x.tear(6) + x.tear(7) + x.tear(10);
        Witness.Call asked = x -> x.tear(4) + x.tear(6) + x.tear(7) + x.tear(10) + x.unlike();
        C.due("unlike", asked.on(scene.make()), 60 + 7 + 9 + 16 + Check.NONE);
        Map<String, Long> before = Witness.after(scene, torn);
        changes(scene + ": unlike", before, Witness.after(scene, asked), "findings=" + (before.get("findings") + 1));
    }

    // "THE TAPE, which is empty then, is TEXT t": the laws of it stay as they are.
    private static void textOf(Scene scene) {
        long[] numbers = {4, 5, 6, 7, 8};
        for (int n = 0; n < 5; n++) {
            int t = n;
            changes(scene, "text " + t, -1, x -> {
                Check.feedAll(x, scene == Scene.LIVELY ? " 6;wage 7;" : "rent 6;wage 7;");
                return x.text(t);
            }, "tape.*", "text " + t + "=" + numbers[t], "text " + t + " of 4=5", "text " + t + " of 6=6",
                "text " + t + " of 7=7", "text " + t + " of 10=5", t == 3 ? "text 4 of .*" : "text 3=7");
        }
    }

    private static void force(Scene scene) {
        changes(scene, "force", 4, x -> x.force(2, 0, 5), "law 0 on 5=4", "law 0 on 6=4", "law 0 on 19=4",
            "law 0 on 20=4", "law 0 on 100=4", "law 0 on 299=4", "law 0 on 300=4", "owed 4 by 0=21", "owed 6 by 0=22",
            "owed 7 by 0=23", "owed 10 by 0=21", "tape: owed .* by 0", "text 0=5", "text 1=6", "text 2=7", "text 3=8",
            LATER);
        changes(scene, "force of days to come", 4, x -> x.force(2, 1, 100), "law 1 on 100=4", "law 1 on 299=4",
            "law 1 on 300=4", "text 0=5", "text 1=6", "text 2=7", "text 3=8");
    }

    private static void days(Scene scene) {
        Map<String, Long> now = Witness.after(scene, x -> x.days(1));
        changes(scene + ": days", Witness.untouched(scene), now, "count 3=6", "count [2-8]", "person . is [01567]",
            "gain .", "loss .", "paper .* is 6", "price 6", ".*owed .*", "text . of .*", "thin", "unlike", LATER);
    }

    private static void press(Scene scene) {
        changes(scene, "press", STATE + 1000, x -> x.press(1000), "count 4=" + (STATE + 1000),
            "count 6=" + (Check.MOST + 1012), LATER);
        changes(scene, "press above most", Check.MOST, x -> x.press(1350), "count 4=" + Check.MOST,
            "count 6=" + (Check.MOST + 1362), "count 7=18", LATER);
        changes(scene, "press 0", STATE, x -> x.press(0));
    }

    // "n MARKS of THE STATE go to a PERSON": none is PRINTED, none BURNT.
    private static void give(Scene scene) {
        long[] had = {1721, 355, 763, 58};
        for (int p = 0; p < 4; p++) {
            int person = p;
            changes(scene, "give " + person, had[person] + 60, x -> x.give(person, 60), "count 4=" + (STATE - 60),
                "count 5=" + (MARKS + 60), "person " + person + " is 0=" + (had[person] + 60), LATER);
        }
        changes(scene, "give above most", Check.MOST, x -> x.give(0, STATE), "count 4=0",
            "count 5=" + (MARKS - 1721 + Check.MOST), "count 7=" + (12 + 1721 - 1344), "person 0 is 0=" + Check.MOST,
            LATER);
    }

    private static void tax(Scene scene) {
        changes(scene, "tax", 172 + 35 + 76 + 5, x -> x.tax(), "count 4=" + (STATE + 288), "count 5=" + (MARKS - 288),
            "person 0 is 0=1549", "person 1 is 0=320", "person 2 is 0=687", "person 3 is 0=53", LATER);
    }

    // GAIN and LOSS are LOAVES, and PRINTED is what was: THE NEW has no part in them.
    private static void swap(Scene scene) {
        long burnt = STATE - STATE / 10 + MARKS - 172 - 35 - 76 - 5;
        changes(scene, "swap", 4, x -> x.swap(1), "count 4=" + STATE / 10, "count 5=288", "count 7=" + (12 + burnt),
            "person 0 is 0=172", "person 1 is 0=35", "person 2 is 0=76", "person 3 is 0=5", "price 1=3", "price .",
            "paper 3 is 3=4", "paper 4 is 3=6", "paper 5 is 3=0", "paper 6 is 3=0", "paper 7 is 3=0", "paper 8 is 3=90",
            "paper 10 is 3=1", "owed 4 by 0=7", "text 0 of 4=12", "text 1 of 4=7", "text 2 of 4=21", "text 3 of 4=31",
            "text 0 of 7=4", "text 1 of 7=2", "text 2 of 7=23", "text 3 of 7=33", ".*owed .*", "text . of .*", LATER);
    }

    // "A sheet has n numbers, all 0": the other ones stay.
    private static void sheet(Scene scene) {
        for (int i = 0; i < 4; i++) {
            int s = i;
            changes(scene, "sheet " + s, 4, x -> x.sheet(s, 8, 4), "sheet " + s + " of 8=0", "sheet " + s + " number 0=1",
                "sheet " + s + " number 1=1", "sheet " + s + " number 2=1", "sheet " + s + " number 3=1", "sheet " + s
                + " .*");
            changes(scene, "sheet missing " + s, 0, x -> x.sheet(s, 0, 4), "sheet " + s + " of 8=-100002",
                "sheet " + s + " .*");
        }
    }

    private static void put(Scene scene) {
        int[][] all = scene == Scene.LIVELY ? new int[][] {{0, 0}, {0, 1}, {0, 4}, {1, 0}, {1, 2}, {2, 0}, {2, 18}, {2, 19}}
            : new int[][] {{0, 1}, {1, 1}, {2, 19}, {3, 0}, {3, 1}, {3, 2}, {3, 3}};
        for (int[] one : all) {
            for (int v = 0; v < 3; v++) {
                int number = v;
                changes(scene, "put " + one[0] + " " + one[1] + " " + v, 0, x -> x.put(one[0], one[1], number),
                    "sheet " + one[0] + " number " + one[1] + "=" + (v == 0 ? 1 : v == 1 ? -1 : 0));
            }
        }
    }

    // "n numbers of a sheet from one on come to another one from one on".
    private static void copy() {
        changes(Scene.LIVELY, "copy in one sheet", 2, x -> x.copy(0, 0, 0, 3, 2), "sheet 0 number 3=1",
            "sheet 0 number 4=-1");
        changes(Scene.BARE, "copy in the last sheet", 2, x -> x.copy(3, 1, 3, 0, 2), "sheet 3 number 1=-1");
        changes(Scene.LIVELY, "copy none", 0, x -> x.copy(0, 0, 0, 3, 0));
        changes(Scene.LIVELY, "copy far", 2, x -> x.copy(2, 18, 2, 0, 2), "sheet 2 number 0=-1");
        for (int n = 0; n <= 4; n++) {
            int count = n;
            Witness.Call laid = x -> x.sheet(3, 8, 6);
            Witness.Call copied = x -> {
                x.sheet(3, 8, 6);
                return x.copy(0, 1, 3, 2, count);
            };
            int[] number = {-1, 1, 0, 1};
            String[] changed = new String[count];
            for (int i = 0; i < count; i++) {
                changed[i] = "sheet 3 number " + (2 + i) + "=" + number[i];
            }
            C.due("copy " + count, copied.on(Scene.LIVELY.make()), count);
            changes("copy " + count, Witness.after(Scene.LIVELY, laid), Witness.after(Scene.LIVELY, copied), changed);
        }
    }

    // "The n lowest bytes .. come behind THE TAPE".
    private static void feed() {
        for (int i = 1; i <= 8; i++) {
            int n = i;
            changes(Scene.LIVELY, "feed " + n, 11 + n, x -> x.feed(n, 0x2020202020202020L), "tape=" + (12 + n),
                "tape and a digit=" + (14 + n), "tape and a clause=" + (21 + n));
            changes(Scene.BARE, "feed " + n, 7 + n, x -> x.feed(n, 0x2020202020202020L), "tape=" + (8 + n),
                "tape and a digit=" + (10 + n), "tape and a clause=" + (17 + n), "tape as a text=" + (8 + n));
        }
    }

    // "with a FAULT its place, and TEXT t stays": THE TAPE is empty all the same.
    private static void textWithFault() {
        for (int i = 0; i < 5; i++) {
            int t = i;
            changes(Scene.LIVELY, "text with a fault", 11, x -> x.text(t), "tape=1", "tape and a digit=3",
                "tape and a clause=10", "tape as a text=1", "tape: owed 4 by 1=2400", "tape: owed 6 by 1=8",
                "tape: owed 7 by 1=13", "tape: owed 10 by 1=640");
            changes(Scene.BARE, "text with a fault", 7, x -> x.text(t), "tape=1", "tape and a digit=3",
                "tape and a clause=10", "tape as a text=1");
            changes(Scene.NEW, "text of nothing", 0, x -> x.text(t));
        }
    }

    // "An IMAGE of all (but sheets, THE TAPE, count(9)) is kept; the one before goes".
    private static void image(Scene scene) {
        Map<String, Long> before = Witness.untouched(scene);
        Map<String, Long> now = Witness.after(scene, x -> x.image());
        C.due(scene + ": image", scene.make().image(), 5);
        changes(scene + ": image", before, now, "restore=5", "image: .*");
        for (String name : before.keySet()) {
            if (now.containsKey("image: " + name)) {
                C.due(scene + ": image: " + name, now.get("image: " + name), before.get(name));
            }
        }
    }

    // "All is as the IMAGE has it, which stays".
    private static void restore() {
        Map<String, Long> before = Witness.untouched(Scene.LIVELY);
        Map<String, Long> now = Witness.after(Scene.LIVELY, x -> x.restore());
        C.due("restore", Scene.LIVELY.make().restore(), 1);
        for (String name : before.keySet()) {
            String kept = before.containsKey("image: " + name) ? "image: " + name : name;
            if (!name.matches("later: .*|tape: .*|text .*")
                && (before.containsKey("image: " + name) || now.containsKey(name))) {
                C.due("restore: " + name, now.get(name), before.get(kept));
            }
        }
        Map<String, Long> texts = new HashMap<>();
        now.forEach((name, v) -> {
            if (name.matches("text .|text . of 4")) {
                texts.put(name, v);
            }
        });
        // TEXT 2 was told behind the IMAGE; laws go on behind the two that it has.
        changes("texts of the image", Map.of("text 0", 2L, "text 0 of 4", 62L, "text 1", 3L, "text 1 of 4", 61L,
            "text 2", Check.NONE, "text 2 of 4", 61L, "text 3", 4L, "text 3 of 4", 31L), texts, "text 4=-100006",
            "text 4 of 4=31");
        MeltingMarks x = Scene.LIVELY.make();
        C.due("restore", x.restore(), 1);
        for (int i = 0; i < 7; i++) {
            C.due("law of court 0 on " + x.count(3), x.owed(Scene.LIVELY_RENT, 0), 7);
            C.due("law of court 1 on " + x.count(3), x.owed(Scene.LIVELY_RENT, 1), x.count(3) < 2 ? 7 : 8);
            x.days(1);
        }
    }
}
