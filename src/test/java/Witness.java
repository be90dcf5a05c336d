import java.util.EnumMap;
import java.util.LinkedHashMap;
import java.util.Map;

/**
 * All that can be asked of an object in a scene, each answer by a name. Asking uses an object up (some of
 * it can only be seen by what comes of it), so the scene is made anew for each part of what is asked.
 */
final class Witness {
    interface Call {
        long on(MeltingMarks x);
    }

    private static final Map<Scene, Map<String, Long>> UNTOUCHED = new EnumMap<>(Scene.class);
    private static final int[] LAW_DAYS = {0, 1, 2, 3, 4, 5, 6, 19, 20, 100, 299, 300};

    private final Map<String, Long> told = new LinkedHashMap<>();
    private final Scene scene;
    private final Call act;

    private Witness(Scene scene, Call act) {
        this.scene = scene;
        this.act = act;
    }

    static Map<String, Long> untouched(Scene scene) {
        return UNTOUCHED.computeIfAbsent(scene, s -> after(s, x -> 0));
    }

    static Map<String, Long> after(Scene scene, Call act) {
        Witness w = new Witness(scene, act);
        w.state("", w.made());
        w.image(w.made());
        w.later(w.made());
        w.tape(w.made());
        w.texts(w.made());
        MeltingMarks x = w.made();
        int least = stage(x, 3);
        for (int s = 0; s < 3; s++) {
            w.numbers(x, s, 3, least);
        }
        MeltingMarks y = w.made();
        w.numbers(y, 3, 0, stage(y, 0));
        return w.told;
    }

    /** What an IMAGE has, as far as it can be asked without a change (but for count(9)). */
    static Map<String, Long> stateOf(MeltingMarks x) {
        Witness w = new Witness(null, null);
        w.state("", x);
        w.told.remove("findings");
        return w.told;
    }

    /** Names that are told otherwise, or by one of them alone. */
    static Map<String, String> unlike(Map<String, Long> before, Map<String, Long> now) {
        Map<String, String> unlike = new LinkedHashMap<>();
        for (String name : before.keySet()) {
            if (!before.get(name).equals(now.get(name))) {
                unlike.put(name, before.get(name) + " -> " + now.get(name));
            }
        }
        for (String name : now.keySet()) {
            if (!before.containsKey(name)) {
                unlike.put(name, "none -> " + now.get(name));
            }
        }
        return unlike;
    }

    private MeltingMarks made() {
        MeltingMarks x = scene.make();
        act.on(x);
        return x;
    }

    private void state(String ahead, MeltingMarks x) {
        told.put("findings", x.count(9));
        for (int what = 0; what < 9; what++) {
            told.put(ahead + "count " + what, x.count(what));
        }
        for (int i = 0; i < x.count(0); i++) {
            for (int what = 0; what < 8; what++) {
                told.put(ahead + "person " + i + " is " + what, x.personIs(i, what));
            }
            told.put(ahead + "gain " + i, x.gain(i, false));
            told.put(ahead + "loss " + i, x.gain(i, true));
        }
        for (int i = 0; i < x.count(1); i++) {
            for (int what = 0; what < 7; what++) {
                told.put(ahead + "paper " + i + " is " + what, x.paperIs(i, what));
            }
        }
        owed(ahead, x);
        int day = (int) x.count(3);
        for (int d = 0; d <= day; d = d == 0 ? Math.max(1, day - 6) : d + 1) {
            told.put(ahead + "price " + d, x.price(d));
        }
        for (int d : LAW_DAYS) {
            told.put(ahead + "law 0 on " + d, x.law(0, d));
            told.put(ahead + "law 1 on " + d, x.law(1, d));
        }
        told.put(ahead + "thin", x.thin());
        told.put(ahead + "unlike", x.unlike());
    }

    private void owed(String ahead, MeltingMarks x) {
        for (int i = 0; i < Math.min(12, x.count(1)); i++) {
            told.put(ahead + "owed " + i + " by 0", x.owed(i, 0));
            told.put(ahead + "owed " + i + " by 1", x.owed(i, 1));
        }
    }

    private void image(MeltingMarks x) {
        told.put("restore", x.restore());
        if (told.get("restore") < 0) {
            return;
        }
        long findings = told.get("findings");
        state("image: ", x);
        told.put("findings", findings);
    }

    /** Laws that come into force, and what each habit makes of the days. */
    private void later(MeltingMarks x) {
        for (int d = 1; d <= 5; d++) {
            String ahead = "later: " + d + " ";
            told.put(ahead + "price", x.days(1));
            for (int what = 4; what < 9; what++) {
                told.put(ahead + "count " + what, x.count(what));
            }
            for (int i = 0; i < x.count(0); i++) {
                told.put(ahead + "marks " + i, x.personIs(i, 0));
                told.put(ahead + "loaves " + i, x.personIs(i, 1));
            }
            owed(ahead, x);
        }
    }

    /** The tape is read to its end as text 4, which a law of court 1 tells then. */
    private void tape(MeltingMarks x) {
        told.put("tape", x.feed(1, ' '));
        told.put("tape and a digit", x.feed(2, '6' | ';' << 8));
        told.put("tape and a clause", Check.feedAll(x, "wage 7;"));
        told.put("tape as a text", x.text(4));
        x.force(4, 1, (int) x.count(3));
        owed("tape: ", x);
    }

    private void texts(MeltingMarks x) {
        int day = (int) x.count(3);
        for (int t = 0; t < 5; t++) {
            told.put("text " + t, x.force(t, 1, day));
            for (int i = 0; i < Math.min(12, x.count(1)); i++) {
                told.put("text " + t + " of " + i, x.owed(i, 1));
            }
        }
    }

    /**
     * Makes a TAX ahead of the next day feed one more: the answer is the HUNGER of that day with a TAX.
     * OFFERED is n. 10 * n - 9 and 9 MARKS are ASKED without one, 9 * n - 8 and 9 with one: the PRICE
     * is 10 or 9, and the one with 9 MARKS can buy a loaf or not. -1, if there is no room for that.
     * Sheets stay as the IMAGE comes back; in that there are days left.
     */
    private static int stage(MeltingMarks x, int scratch) {
        x.restore();
        if (x.count(0) > 7 || x.count(3) > 296) {
            return -1;
        }
        for (int i = 0; i < x.count(1); i++) {
            x.tear(i);
        }
        x.person(0, 20, 0);
        int poor = (int) x.person(9, 0, 0);
        int rich = (int) x.person(0, 0, 0);
        for (int i = 0; i <= rich; i++) {
            x.habit(i, 0, 0);
            x.habit(i, 1, 1000);
            x.habit(i, 2, 0);
        }
        // Nobody ASKS: PRICE comes to 1, and nobody keeps back on the day behind it.
        x.days(2);
        long offered = 0;
        for (int i = 0; i <= rich; i++) {
            offered += Math.max(0, x.personIs(i, 1) - 1);
        }
        x.press(10 * offered - 9);
        x.give(rich, 10 * offered - 9);
        x.habit(poor, 0, 10);
        x.habit(rich, 0, 10);
        x.sheet(scratch, 8, 1);
        x.put(scratch, 0, 1);
        for (int v = 0; v < 10; v++) {
            if (x.proves(v, scratch) == -1) {
                return v;
            }
        }
        return -1;
    }

    /** How many numbers a sheet has, of how many bits, and whether each is 1 (-1), 0 (1) or neither (0). */
    private void numbers(MeltingMarks x, int s, int scratch, int least) {
        for (int bits = 8; bits <= 32; bits *= 2) {
            x.sheet(scratch, bits, 1);
            long fits = x.copy(s, 0, scratch, 0, 0);
            told.put("sheet " + s + " of " + bits, fits);
            for (int i = 0; i < 20 && fits == 0; i++) {
                long copied = x.copy(s, i, scratch, 0, 1);
                told.put("sheet " + s + " has " + i, copied);
                if (copied == 1 && least >= 0) {
                    told.put("sheet " + s + " number " + i, x.proves(least, scratch));
                }
            }
        }
    }
}
