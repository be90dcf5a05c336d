import java.util.Random;
import java.util.stream.IntStream;

/** Runs of calls by a number of seeds, each call's answer beside the Model's. */
public final class RandomRunsTest {
    private static final Check C = new Check("RandomRunsTest");
    private static final int RUNS = 250;
    private static final String[] WORDS = {"sum", "age", "price", "first", "late", "week", "kind"};
    private static final String[] JOINTS = {"+", "-", "*", "/", "<", "=", " and ", " or "};

    private final Random random;
    private final MeltingMarks x = new MeltingMarks();
    private final Model m = new Model();
    private final String name;
    private final int temper;
    private int calls;

    private RandomRunsTest(int seed) {
        random = new Random(seed);
        name = "run " + seed + " call ";
        temper = seed % 4;
    }

    public static void main(String[] args) {
        // Each run has objects of its own, so they may go side by side: the Model is slow.
        IntStream.range(0, RUNS).parallel().forEach(seed -> new RandomRunsTest(seed).run());
        C.end();
    }

    private void run() {
        int persons = 1 + random.nextInt(9);
        for (int i = 0; i < persons; i++) {
            addPerson();
        }
        int papers = random.nextInt(10);
        for (int i = 0; i < papers; i++) {
            addPaper();
        }
        int laws = random.nextInt(3);
        for (int i = 0; i < laws; i++) {
            tellText();
            force();
        }
        while (calls < 440) {
            any();
        }
        lookAtAll();
    }

    private void same(String call, long got, long want) {
        calls++;
        C.due(name + calls + " " + call, got, want);
    }

    private void any() {
        switch (random.nextInt(26)) {
            case 0: addPerson(); break;
            case 1: habit(); break;
            case 2: askPerson(); break;
            case 3: case 4: addPaper(); break;
            case 5: case 7: case 22: askPaper(); break;
            case 6: settle(); break;
            case 8: if (random.nextInt(3) > 0) tellText(); break;
            case 9: force(); break;
            case 10: askLaw(); break;
            case 11: case 12: case 13: days(); break;
            case 14: askPrice(); break;
            case 15: case 16: money(); break;
            case 17: case 23: case 24: ahead(); break;
            case 18: case 19: sheets(); break;
            case 20: imageOrRestore(); break;
            case 21: { int w = upTo(9); same("count " + w, x.count(w), m.count(w)); break; }
            default: same("thin", x.thin(), m.thin()); break;
        }
    }

    /** 0 to most, and now and then one beside it. */
    private int upTo(int most) {
        int odd = random.nextInt(40);
        if (odd == 0) {
            return -1;
        }
        if (odd == 1) {
            return most + 1;
        }
        if (odd == 2) {
            return random.nextInt();
        }
        return random.nextInt(Math.max(0, most) + 1);
    }

    private long sum() {
        int odd = random.nextInt(30);
        if (odd == 0) {
            return -random.nextInt(3);
        }
        if (odd == 1) {
            return Check.MOST + random.nextInt(2);
        }
        if (odd == 2) {
            return random.nextLong();
        }
        long most = temper == 0 ? 100 : temper == 1 ? 10000 : temper == 2 ? 1000000000000L : Check.MOST;
        return Math.floorMod(random.nextLong(), most) >> (random.nextBoolean() ? 0 : random.nextInt(20));
    }

    /** Persons and papers there are, asked of the Model alone: it changes nothing. */
    private int lastPerson() {
        return (int) m.count(0) - 1;
    }

    private int lastPaper() {
        return (int) m.count(1) - 1;
    }

    private int today() {
        return (int) m.count(3);
    }

    private int who() {
        return random.nextInt(30) == 0 ? random.nextInt() : 100 * upTo(lastPerson()) + upTo(lastPerson());
    }

    private void addPerson() {
        long marks = sum();
        int loaves = random.nextInt(8) == 0 ? upTo(9999) : upTo(30);
        int bakes = random.nextInt(8) == 0 ? upTo(99) : upTo(3);
        same("person", x.person(marks, loaves, bakes), m.person(marks, loaves, bakes));
    }

    private void habit() {
        int p = upTo(lastPerson());
        int what = upTo(2);
        int v = what == 0 ? upTo(10) : what == 1 ? (random.nextBoolean() ? upTo(1000) : upTo(60)) : upTo(random.nextInt(5) == 0 ? 99 : 3);
        same("habit", x.habit(p, what, v), m.habit(p, what, v));
    }

    private void askPerson() {
        int p = upTo(lastPerson());
        int what = upTo(7);
        same("personIs", x.personIs(p, what), m.personIs(p, what));
        boolean loss = random.nextBoolean();
        same("gain", x.gain(p, loss), m.gain(p, loss));
    }

    private void addPaper() {
        int kind = upTo(5);
        int who = kind == 4 && random.nextInt(10) != 0 ? upTo(lastPerson()) : who();
        long sum = sum() >> (kind == 4 ? 5 : 0);
        int due = Math.min(301, today() + (random.nextBoolean() ? upTo(12) : upTo(100)));
        same("paper " + kind + " " + who + " " + sum + " " + due, x.paper(kind, who, sum, due), m.paper(kind, who, sum, due));
    }

    private void askPaper() {
        int p = upTo(lastPaper());
        int what = upTo(6);
        int kind = upTo(5);
        int court = upTo(1);
        same("as", x.as(p, kind), m.as(p, kind));
        same("paperIs", x.paperIs(p, what), m.paperIs(p, what));
        same("owed " + p + " " + court, x.owed(p, court), m.owed(p, court));
    }

    private void settle() {
        int p = upTo(lastPaper());
        if (random.nextInt(4) > 0) {
            same("pay " + p, x.pay(p), m.pay(p));
        } else {
            same("tear " + p, x.tear(p), m.tear(p));
        }
    }

    private void tellText() {
        StringBuilder s = new StringBuilder();
        s.append("debt ").append(expression(random.nextInt(4))).append(";rent ").append(expression(random.nextInt(4)));
        s.append(" ; wage ").append(expression(random.nextInt(3))).append(";");
        if (random.nextInt(3) == 0) {
            spoil(s);
        }
        for (int from = 0; from < s.length();) {
            int n = Math.min(random.nextInt(40) == 0 ? upTo(8) : 8, s.length() - from);
            long bytes = random.nextInt(2) == 0 ? 0 : -1L << Math.min(63, 8 * Math.max(0, n));
            bytes = n == 8 ? 0 : bytes;
            for (int i = 0; i < n; i++) {
                bytes |= (long) (s.charAt(from + i) & 255) << (8 * i);
            }
            same("feed", x.feed(n, bytes), m.feed(n, bytes));
            from += Math.max(1, n);
        }
        int t = upTo(4);
        same("text " + t + " '" + s + "'", x.text(t), m.text(t));
    }

    private String expression(int depth) {
        if (depth <= 0) {
            return random.nextInt(3) == 0 ? "" + random.nextInt(random.nextInt(3) == 0 ? 1000000 : 12)
                : WORDS[random.nextInt(WORDS.length)];
        }
        switch (random.nextInt(4)) {
            case 0: return "(" + expression(depth - 1) + ")";
            case 1: return "not " + expression(depth - 1);
            default: return expression(depth - 1) + JOINTS[random.nextInt(JOINTS.length)] + expression(depth - 1);
        }
    }

    private void spoil(StringBuilder s) {
        int times = 1 + random.nextInt(3);
        for (int i = 0; i < times; i++) {
            int at = random.nextInt(s.length());
            switch (random.nextInt(4)) {
                case 0: s.deleteCharAt(at); break;
                case 1: s.insert(at, "();+-*/<= not or and 7 sum wage".charAt(random.nextInt(31))); break;
                case 2: s.setCharAt(at, (char) random.nextInt(256)); break;
                default: s.insert(at, new String[] {"(", "((", "not ", "1234567", " rent ", "x", " "}[random.nextInt(7)]); break;
            }
        }
    }

    private void force() {
        int t = upTo(4);
        int court = upTo(1);
        int day = random.nextBoolean() ? upTo(300) : today();
        same("force", x.force(t, court, day), m.force(t, court, day));
    }

    private void askLaw() {
        int court = upTo(1);
        int day = upTo(300);
        same("law", x.law(court, day), m.law(court, day));
        same("unlike", x.unlike(), m.unlike());
    }

    private void days() {
        int n = random.nextInt(temper == 3 ? 3 : 15) == 0 ? upTo(30) : 1 + random.nextInt(3);
        same("days " + n, x.days(n), m.days(n));
    }

    private void askPrice() {
        int day = upTo(today());
        int base = upTo(today());
        same("price", x.price(day), m.price(day));
        same("index", x.index(day, base), m.index(day, base));
    }

    private void money() {
        long n = sum();
        int p = upTo(lastPerson());
        switch (random.nextInt(8)) {
            case 0: case 1: same("press", x.press(n), m.press(n)); break;
            case 2: case 3: case 4: same("give", x.give(p, n), m.give(p, n)); break;
            case 5: case 6: same("tax", x.tax(), m.tax()); break;
            default: {
                int k = random.nextInt(3) == 0 ? random.nextInt(12) - 1 : 1;
                same("swap " + k, x.swap(k), m.swap(k));
            }
        }
    }

    private void ahead() {
        int n = upTo(30);
        switch (random.nextInt(5)) {
            case 0: same("need", x.need(n), m.need(n)); break;
            case 1: same("melts", x.melts(n), m.melts(n)); break;
            case 2: {
                int k = random.nextInt(20) == 0 ? upTo(8) : random.nextInt(6);
                int what = upTo(2);
                same("choices " + k + " " + what, x.choices(k, what), m.choices(k, what));
                break;
            }
            case 3: {
                int v = random.nextInt(3) == 0 ? upTo(9999) : random.nextInt(12);
                int s = upTo(3);
                same("proves", x.proves(v, s), m.proves(v, s));
                break;
            }
            default: {
                int p = upTo(lastPerson());
                long v = sum();
                same("beside", x.beside(p, v, n), m.beside(p, v, n));
            }
        }
    }

    private void sheets() {
        int s = upTo(3);
        int t = upTo(3);
        int i = upTo(6);
        int j = upTo(6);
        int n = upTo(random.nextBoolean() ? 4 : 20);
        int v = random.nextInt(6) == 0 ? random.nextInt(70000) : random.nextInt(2);
        switch (random.nextInt(4)) {
            case 0: {
                int bits = random.nextInt(10) == 0 ? upTo(32) : new int[] {0, 8, 8, 8, 8, 16, 32}[random.nextInt(7)];
                same("sheet", x.sheet(s, bits, n), m.sheet(s, bits, n));
                break;
            }
            case 1: same("copy", x.copy(s, i, t, j, n), m.copy(s, i, t, j, n)); break;
            default: same("put", x.put(s, i, v), m.put(s, i, v)); break;
        }
    }

    private void imageOrRestore() {
        if (random.nextInt(3) > 0) {
            same("image", x.image(), m.image());
        } else {
            same("restore", x.restore(), m.restore());
        }
    }

    private void lookAtAll() {
        for (int what = 0; what < 10; what++) {
            same("count " + what, x.count(what), m.count(what));
        }
        for (int p = 0; p < 4; p++) {
            for (int what = 0; what < 8; what++) {
                same("personIs " + p + " " + what, x.personIs(p, what), m.personIs(p, what));
            }
        }
    }
}
