import java.math.BigInteger;
import java.util.ArrayList;
import java.util.List;

/**
 * The document a second time, written apart from the class and as slowly as need be: numbers are
 * BigIntegers, texts are split anew for each ruling, what is asked ahead goes through whole copies.
 */
final class Model {
    private static final BigInteger MOST = BigInteger.TEN.pow(15);
    private static final BigInteger TEN = BigInteger.TEN;
    private static final BigInteger HUNDRED = BigInteger.valueOf(100);

    static final class Man {
        BigInteger marks;
        int loaves;
        int bake;
        int spend = 5;
        int keep = 1000;
        int hungered;
        int sold;
        int bought;
        BigInteger gain = BigInteger.ZERO;
        BigInteger loss = BigInteger.ZERO;

        Man twin() {
            Man m = new Man();
            m.marks = marks;
            m.loaves = loaves;
            m.bake = bake;
            m.spend = spend;
            m.keep = keep;
            m.hungered = hungered;
            m.sold = sold;
            m.bought = bought;
            m.gain = gain;
            m.loss = loss;
            return m;
        }
    }

    static final class Note {
        String kind;
        int by;
        int to;
        BigInteger sum;
        int since;
        int due;
        String state = "OPEN";

        Note twin() {
            Note n = new Note();
            n.kind = kind;
            n.by = by;
            n.to = to;
            n.sum = sum;
            n.since = since;
            n.due = due;
            n.state = state;
            return n;
        }

        boolean is(String... kinds) {
            for (String k : kinds) {
                if (kind.equals(k)) {
                    return true;
                }
            }
            return false;
        }
    }

    static final class Act {
        List<String> tokens;
        int court;
        int day;
    }

    static final class All {
        int day;
        BigInteger state = BigInteger.ZERO;
        BigInteger printed = BigInteger.ZERO;
        BigInteger burnt = BigInteger.ZERO;
        List<BigInteger> prices = new ArrayList<>();
        List<Man> men = new ArrayList<>();
        List<Note> notes = new ArrayList<>();
        List<Act> acts = new ArrayList<>();
        List<List<String>> texts = new ArrayList<>();

        All twin() {
            All a = new All();
            a.day = day;
            a.state = state;
            a.printed = printed;
            a.burnt = burnt;
            a.prices.addAll(prices);
            for (Man m : men) {
                a.men.add(m.twin());
            }
            for (Note n : notes) {
                a.notes.add(n.twin());
            }
            a.acts.addAll(acts);
            a.texts.addAll(texts);
            return a;
        }

        BigInteger price() {
            return prices.get(day);
        }

        int hunger() {
            int sum = 0;
            for (Man m : men) {
                sum += m.hungered;
            }
            return sum;
        }

        void earn(Man m, BigInteger n) {
            m.marks = m.marks.add(n);
            if (m.marks.compareTo(MOST) > 0) {
                burnt = burnt.add(m.marks.subtract(MOST));
                m.marks = MOST;
            }
        }

        void stateEarns(BigInteger n) {
            state = state.add(n);
            if (state.compareTo(MOST) > 0) {
                burnt = burnt.add(state.subtract(MOST));
                state = MOST;
            }
        }

        Act lawOf(int court, int when) {
            Act law = null;
            for (Act a : acts) {
                if (a.court == court && a.day <= when) {
                    law = a;
                }
            }
            return law;
        }

        BigInteger owed(Note n, int court) {
            if (n.is("PAPER", "TOWN")) {
                return n.sum;
            }
            if (n.is("GOLD")) {
                return n.sum.multiply(price()).min(MOST);
            }
            Act law = lawOf(court, day);
            if (law == null) {
                return n.sum;
            }
            int clause = law.tokens.indexOf(n.kind.toLowerCase());
            int stop = clause;
            while (!law.tokens.get(stop).equals(";")) {
                stop++;
            }
            long v = new Words(this, n).value(law.tokens.subList(clause + 1, stop));
            return BigInteger.valueOf(v).max(BigInteger.ZERO).min(MOST);
        }

        void paid(Note n, BigInteger sum) {
            n.state = "PAID";
            if (n.is("DEBT", "GOLD")) {
                BigInteger g = n.sum.divide(prices.get(n.since)).subtract(sum.divide(price()));
                men.get(n.by).gain = men.get(n.by).gain.add(g);
                men.get(n.to).loss = men.get(n.to).loss.add(g);
            }
        }

        BigInteger tax() {
            BigInteger sum = BigInteger.ZERO;
            for (Man m : men) {
                BigInteger t = m.marks.divide(TEN);
                m.marks = m.marks.subtract(t);
                sum = sum.add(t);
            }
            stateEarns(sum);
            return sum;
        }

        void dayGoesBy() {
            for (Man m : men) {
                m.loaves = Math.min(9999, m.loaves + m.bake);
            }
            for (Note n : notes) {
                if (n.state.equals("OPEN") && n.is("WAGE")) {
                    BigInteger wage = owed(n, 0);
                    if (state.compareTo(wage) < 0) {
                        printed = printed.add(wage.subtract(state));
                        state = wage;
                    }
                    state = state.subtract(wage);
                    earn(men.get(n.to), wage);
                }
            }
            market();
            for (Man m : men) {
                if (m.loaves == 0) {
                    m.hungered++;
                } else {
                    m.loaves--;
                }
            }
            for (Note n : notes) {
                boolean debt = n.is("DEBT", "GOLD") && n.due <= day;
                boolean rent = n.is("RENT") && day % 10 == 0;
                if (n.state.equals("OPEN") && (debt || rent)) {
                    BigInteger all = owed(n, 0);
                    BigInteger some = all.min(men.get(n.by).marks);
                    men.get(n.by).marks = men.get(n.by).marks.subtract(some);
                    earn(men.get(n.to), some);
                    if (debt && some.equals(all)) {
                        paid(n, some);
                    }
                }
            }
            for (Note n : notes) {
                if (n.state.equals("OPEN") && n.is("RENT", "WAGE") && n.due == day) {
                    n.state = "PAID";
                }
            }
            day++;
        }

        private void market() {
            BigInteger[] ask = new BigInteger[men.size()];
            int[] offer = new int[men.size()];
            BigInteger asked = BigInteger.ZERO;
            int offered = 0;
            for (int i = 0; i < men.size(); i++) {
                Man m = men.get(i);
                ask[i] = m.marks.multiply(BigInteger.valueOf(m.spend)).divide(TEN);
                asked = asked.add(ask[i]);
                boolean keeps = day != 0 && HUNDRED.multiply(price())
                    .compareTo(BigInteger.valueOf(100 + m.keep).multiply(prices.get(day - 1))) >= 0;
                offer[i] = keeps || m.loaves == 0 ? 0 : m.loaves - 1;
                offered += offer[i];
            }
            BigInteger next = price();
            if (offered > 0) {
                next = asked.divide(BigInteger.valueOf(offered)).max(BigInteger.ONE).min(MOST);
            }
            while (prices.size() > day + 1) {
                prices.remove(prices.size() - 1);
            }
            prices.add(next);
            for (int i = 0; i < men.size(); i++) {
                Man buyer = men.get(i);
                BigInteger left = ask[i];
                // A loaf at a time.
                for (int j = 0; j < men.size(); j++) {
                    while (j != i && offer[j] > 0 && buyer.loaves < 9999 && left.compareTo(next) >= 0) {
                        left = left.subtract(next);
                        offer[j]--;
                        men.get(j).loaves--;
                        men.get(j).sold++;
                        earn(men.get(j), next);
                        buyer.marks = buyer.marks.subtract(next);
                        buyer.loaves++;
                        buyer.bought++;
                    }
                }
            }
        }
    }

    /** Values of expressions, split at the last sign of the lowest rank outside of brackets. */
    static final class Words {
        final All all;
        final Note note;

        Words(All all, Note note) {
            this.all = all;
            this.note = note;
        }

        long value(List<String> e) {
            String[][] ranks = {{"or"}, {"and"}};
            for (String[] rank : ranks) {
                int at = lastOf(e, rank);
                if (at >= 0) {
                    return joined(e, at);
                }
            }
            if (e.get(0).equals("not")) {
                return value(e.subList(1, e.size())) == 0 ? 1 : 0;
            }
            String[][] lower = {{"<", "="}, {"+", "-"}, {"*", "/"}};
            for (String[] rank : lower) {
                int at = lastOf(e, rank);
                if (at >= 0) {
                    return joined(e, at);
                }
            }
            if (e.get(0).equals("(")) {
                return value(e.subList(1, e.size() - 1));
            }
            return single(e.get(0));
        }

        private static int lastOf(List<String> e, String... signs) {
            int depth = 0;
            for (int i = e.size() - 1; i >= 0; i--) {
                if (e.get(i).equals(")")) {
                    depth++;
                }
                if (e.get(i).equals("(")) {
                    depth--;
                }
                for (String s : signs) {
                    if (depth == 0 && e.get(i).equals(s)) {
                        return i;
                    }
                }
            }
            return -1;
        }

        private long joined(List<String> e, int at) {
            BigInteger a = BigInteger.valueOf(value(e.subList(0, at)));
            BigInteger b = BigInteger.valueOf(value(e.subList(at + 1, e.size())));
            boolean ta = a.signum() != 0;
            boolean tb = b.signum() != 0;
            switch (e.get(at)) {
                case "or": return ta || tb ? 1 : 0;
                case "and": return ta && tb ? 1 : 0;
                case "<": return a.compareTo(b) < 0 ? 1 : 0;
                case "=": return a.equals(b) ? 1 : 0;
                case "+": return a.add(b).longValue();
                case "-": return a.subtract(b).longValue();
                case "*": return a.multiply(b).longValue();
                default: return tb ? a.divide(b).longValue() : 0;
            }
        }

        private long single(String s) {
            int day = all.day;
            switch (s) {
                case "sum": return note.sum.longValue();
                case "age": return day - note.since;
                case "price": return all.prices.get(day).longValue();
                case "first": return all.prices.get(note.since).longValue();
                case "late": return all.prices.get(day < 3 ? 0 : day - 3).longValue();
                case "week": return all.prices.get(day / 7 * 7).longValue();
                case "kind": return kindOf(note);
                default: return Long.parseLong(s);
            }
        }
    }

    private static final List<String> KINDS = List.of("PAPER", "DEBT", "GOLD", "RENT", "WAGE", "TOWN");
    private static final List<String> NAMES = List.of("sum", "age", "price", "first", "late", "week", "kind");
    private static final List<String> KEYS = List.of("debt", "rent", "wage", "and", "or", "not");

    private static int kindOf(Note n) {
        return KINDS.indexOf(n.kind);
    }

    private All now = new All();
    private All image;
    private StringBuilder tape = new StringBuilder();
    private final int[][] sheets = new int[4][];
    private final int[] bits = new int[4];
    private int findings;

    Model() {
        now.prices.add(BigInteger.ONE);
        for (int i = 0; i < 5; i++) {
            now.texts.add(null);
        }
    }

    private long tell(long finding) {
        findings++;
        return finding;
    }

    private static boolean most(long v) {
        return v >= 0 && v <= MOST.longValue();
    }

    private boolean man(int i) {
        return i >= 0 && i < now.men.size();
    }

    private boolean note(int i) {
        return i >= 0 && i < now.notes.size();
    }

    long person(long marks, int loaves, int bakes) {
        if (!most(marks) || loaves < 0 || loaves > 9999 || bakes < 0 || bakes > 99) {
            return tell(-100001);
        }
        if (now.men.size() == 10) {
            return tell(-100005);
        }
        Man m = new Man();
        m.marks = BigInteger.valueOf(marks);
        m.loaves = loaves;
        m.bake = bakes;
        now.men.add(m);
        return now.men.size() - 1;
    }

    long habit(int person, int what, int v) {
        int[] top = {10, 1000, 99};
        if (!man(person) || what < 0 || what > 2 || v < 0 || v > top[what]) {
            return tell(-100001);
        }
        Man m = now.men.get(person);
        int[] was = {m.spend, m.keep, m.bake};
        m.spend = what == 0 ? v : m.spend;
        m.keep = what == 1 ? v : m.keep;
        m.bake = what == 2 ? v : m.bake;
        return was[what];
    }

    long personIs(int person, int what) {
        if (!man(person) || what < 0 || what > 7) {
            return tell(-100001);
        }
        Man m = now.men.get(person);
        long[] is = {m.marks.longValue(), m.loaves, m.bake, m.spend, m.keep, m.hungered, m.sold, m.bought};
        return is[what];
    }

    long gain(int person, boolean loss) {
        if (!man(person)) {
            return tell(-100001);
        }
        return (loss ? now.men.get(person).loss : now.men.get(person).gain).longValueExact();
    }

    long paper(int kind, int who, long sum, int due) {
        if (kind < 0 || kind > 5 || who < 0 || sum < 1 || !most(sum) || due < now.day || due > 300) {
            return tell(-100001);
        }
        int by = who / 100;
        int to = who - 100 * by;
        if (!man(to) || (kind == 4 && by != 0) || (kind != 4 && !man(by))) {
            return tell(-100001);
        }
        if (kind != 4 && by == to) {
            return tell(-100003);
        }
        if (now.notes.size() == 24) {
            return tell(-100005);
        }
        Note n = new Note();
        n.kind = KINDS.get(kind);
        n.by = kind == 4 ? -1 : by;
        n.to = to;
        n.sum = BigInteger.valueOf(sum);
        n.since = now.day;
        n.due = due;
        now.notes.add(n);
        return now.notes.size() - 1;
    }

    long as(int paper, int kind) {
        if (!note(paper) || kind < 0 || kind > 5) {
            return tell(-100001);
        }
        int is = kindOf(now.notes.get(paper));
        boolean fits = kind == 0 || kind == is || kind == 1 && (is == 2 || is == 3 || is == 4);
        return fits ? paper : tell(-100004);
    }

    long paperIs(int paper, int what) {
        if (!note(paper) || what < 0 || what > 6) {
            return tell(-100001);
        }
        Note n = now.notes.get(paper);
        long[] is = {kindOf(n), n.by, n.to, n.sum.longValue(), n.since, n.due,
            List.of("OPEN", "PAID", "VOID").indexOf(n.state)};
        return is[what];
    }

    long owed(int paper, int court) {
        if (!note(paper) || court < 0 || court > 1) {
            return tell(-100001);
        }
        Note n = now.notes.get(paper);
        return n.state.equals("OPEN") ? now.owed(n, court).longValueExact() : tell(-100006);
    }

    long pay(int paper) {
        if (!note(paper)) {
            return tell(-100001);
        }
        Note n = now.notes.get(paper);
        if (!n.state.equals("OPEN")) {
            return tell(-100006);
        }
        if (n.is("RENT", "WAGE")) {
            return tell(-100004);
        }
        BigInteger sum = now.owed(n, 0);
        Man by = now.men.get(n.by);
        if (by.marks.compareTo(sum) < 0) {
            return tell(-100008);
        }
        by.marks = by.marks.subtract(sum);
        now.earn(now.men.get(n.to), sum);
        now.paid(n, sum);
        return sum.longValueExact();
    }

    long tear(int paper) {
        if (!note(paper)) {
            return tell(-100001);
        }
        Note n = now.notes.get(paper);
        if (!n.state.equals("OPEN")) {
            return tell(-100006);
        }
        n.state = "VOID";
        return n.sum.longValueExact();
    }

    long thin() {
        long bitsOf = 0;
        for (int i = 0; i < now.men.size(); i++) {
            BigInteger sum = BigInteger.ZERO;
            for (Note n : now.notes) {
                if (n.is("TOWN") && n.by == i && n.state.equals("OPEN")) {
                    sum = sum.add(n.sum);
                }
            }
            if (sum.compareTo(now.men.get(i).marks) > 0) {
                bitsOf += 1L << i;
            }
        }
        return bitsOf;
    }

    long feed(int n, long bytes) {
        if (n < 1 || n > 8) {
            return tell(-100001);
        }
        if (tape.length() + n > 160) {
            return tell(-100005);
        }
        for (int i = 0; i < n; i++) {
            tape.append((char) (bytes >> 8 * i & 255));
        }
        return tape.length();
    }

    long text(int t) {
        if (t < 0 || t > 4) {
            return tell(-100001);
        }
        List<String> tokens = new ArrayList<>();
        int fault = faultOf(tape.toString(), tokens);
        tape = new StringBuilder();
        if (fault < 0) {
            now.texts.set(t, tokens);
        }
        return fault;
    }

    /** One pass by what may come next; a bracket is a level, and levels hold how many nots they are in. */
    private static int faultOf(String s, List<String> tokens) {
        int clause = 0;
        boolean keyDue = true;
        boolean valueDue = false;
        boolean notMayCome = false;
        List<int[]> levels = new ArrayList<>();
        int i = 0;
        while (true) {
            while (i < s.length() && s.charAt(i) == 32) {
                i++;
            }
            if (i == s.length()) {
                return clause == 3 ? -1 : i;
            }
            int end = endOfToken(s, i);
            String tok = s.substring(i, end);
            int nesting = levels.size() - 1;
            for (int[] level : levels) {
                nesting += level[0];
            }
            boolean stands;
            if (clause == 3) {
                stands = false;
            } else if (keyDue) {
                stands = tok.equals(KEYS.get(clause));
                keyDue = false;
                valueDue = true;
                notMayCome = true;
                levels.clear();
                levels.add(new int[2]);
            } else if (valueDue) {
                int[] level = levels.get(levels.size() - 1);
                if (tok.equals("(")) {
                    stands = nesting < 4;
                    levels.add(new int[2]);
                    notMayCome = true;
                } else if (tok.equals("not")) {
                    stands = notMayCome && nesting < 4;
                    level[0]++;
                } else {
                    stands = NAMES.contains(tok) || tok.matches("[0-9]{1,6}");
                    valueDue = false;
                }
            } else {
                int[] level = levels.get(levels.size() - 1);
                valueDue = true;
                notMayCome = false;
                if (tok.equals(")")) {
                    stands = levels.size() > 1;
                    levels.remove(levels.size() - 1);
                    valueDue = false;
                } else if (tok.equals(";")) {
                    stands = levels.size() == 1;
                    clause++;
                    keyDue = true;
                } else if (tok.equals("and") || tok.equals("or")) {
                    stands = true;
                    level[0] = 0;
                    level[1] = 0;
                    notMayCome = true;
                } else if (tok.equals("<") || tok.equals("=")) {
                    stands = level[1] == 0;
                    level[1] = 1;
                } else {
                    stands = tok.equals("+") || tok.equals("-") || tok.equals("*") || tok.equals("/");
                }
            }
            if (!stands) {
                return i;
            }
            tokens.add(tok);
            i = end;
        }
    }

    private static int endOfToken(String s, int i) {
        int end = i;
        while (end < s.length() && s.charAt(end) >= 'a' && s.charAt(end) <= 'z') {
            end++;
        }
        if (end > i) {
            return end;
        }
        while (end < s.length() && s.charAt(end) >= '0' && s.charAt(end) <= '9') {
            end++;
        }
        return end > i ? end : i + 1;
    }

    long force(int t, int court, int day) {
        if (t < 0 || t > 4 || court < 0 || court > 1 || day < 0 || day > 300) {
            return tell(-100001);
        }
        if (now.texts.get(t) == null) {
            return tell(-100006);
        }
        if (now.acts.size() == 12) {
            return tell(-100005);
        }
        Act a = new Act();
        a.tokens = now.texts.get(t);
        a.court = court;
        a.day = day;
        now.acts.add(a);
        return now.acts.size() - 1;
    }

    long law(int court, int day) {
        if (court < 0 || court > 1 || day < 0 || day > 300) {
            return tell(-100001);
        }
        Act a = now.lawOf(court, day);
        return a == null ? tell(-100006) : now.acts.indexOf(a);
    }

    long unlike() {
        for (Note n : now.notes) {
            if (n.state.equals("OPEN") && !now.owed(n, 0).equals(now.owed(n, 1))) {
                return now.notes.indexOf(n);
            }
        }
        return tell(-100006);
    }

    long days(int n) {
        if (n < 1 || n > 30) {
            return tell(-100001);
        }
        if (now.day + n > 300) {
            return tell(-100005);
        }
        for (int i = 0; i < n; i++) {
            now.dayGoesBy();
        }
        return now.price().longValueExact();
    }

    long price(int day) {
        return day < 0 || day > now.day ? tell(-100001) : now.prices.get(day).longValueExact();
    }

    long index(int day, int base) {
        if (day < 0 || day > now.day || base < 0 || base > now.day) {
            return tell(-100001);
        }
        return now.prices.get(day).multiply(HUNDRED).divide(now.prices.get(base)).min(MOST).longValueExact();
    }

    long press(long n) {
        if (!most(n)) {
            return tell(-100001);
        }
        now.printed = now.printed.add(BigInteger.valueOf(n));
        now.stateEarns(BigInteger.valueOf(n));
        return now.state.longValueExact();
    }

    long give(int person, long n) {
        if (!man(person) || n < 1 || !most(n)) {
            return tell(-100001);
        }
        BigInteger sum = BigInteger.valueOf(n);
        if (now.state.compareTo(sum) < 0) {
            return tell(-100008);
        }
        now.state = now.state.subtract(sum);
        now.earn(now.men.get(person), sum);
        return now.men.get(person).marks.longValueExact();
    }

    long tax() {
        return now.tax().longValueExact();
    }

    long swap(int k) {
        if (k < 1 || k > 9) {
            return tell(-100001);
        }
        BigInteger by = TEN.pow(k);
        BigInteger before = now.state;
        BigInteger after = now.state.divide(by);
        now.state = after;
        for (Man m : now.men) {
            before = before.add(m.marks);
            m.marks = m.marks.divide(by);
            after = after.add(m.marks);
        }
        now.burnt = now.burnt.add(before).subtract(after);
        for (Note n : now.notes) {
            n.sum = n.state.equals("OPEN") ? n.sum.divide(by) : n.sum;
        }
        for (int d = 0; d < now.prices.size(); d++) {
            now.prices.set(d, now.prices.get(d).divide(by).max(BigInteger.ONE));
        }
        return now.price().longValueExact();
    }

    long need(int n) {
        if (n < 1 || n > 30) {
            return tell(-100001);
        }
        if (now.day + n > 300) {
            return tell(-100005);
        }
        return gone(now.twin(), n).printed.subtract(now.printed).longValueExact();
    }

    private static All gone(All a, int n) {
        for (int i = 0; i < n; i++) {
            a.dayGoesBy();
        }
        return a;
    }

    long melts(int n) {
        if (n < 1 || n > 30) {
            return tell(-100001);
        }
        if (now.day + n > 300) {
            return tell(-100005);
        }
        All a = gone(now.twin(), n);
        for (int i = 1; i <= n; i++) {
            BigInteger ahead = a.prices.get(now.day + i - 1);
            if (a.prices.get(now.day + i).compareTo(ahead.add(ahead)) >= 0) {
                return i;
            }
        }
        return tell(-100006);
    }

    long choices(int n, int what) {
        if (n < 1 || n > 8 || what < 0 || what > 2) {
            return tell(-100001);
        }
        if (now.day + n > 300) {
            return tell(-100005);
        }
        long[] best = null;
        for (int way = 0; way < 1 << n; way++) {
            All a = now.twin();
            for (int k = 0; k < n; k++) {
                if ((way >> k & 1) == 1) {
                    a.tax();
                }
                a.dayGoesBy();
            }
            long[] row = {a.hunger() - now.hunger(), a.price().longValueExact(), Integer.bitCount(way), way};
            if (best == null || java.util.Arrays.compare(row, best) < 0) {
                best = row;
            }
        }
        return best[new int[] {3, 0, 1}[what]];
    }

    long proves(int v, int sheet) {
        if (v < 0 || v > 9999 || sheet < 0 || sheet > 3) {
            return tell(-100001);
        }
        if (sheets[sheet] == null) {
            return tell(-100002);
        }
        int[] plan = sheets[sheet];
        if (now.day + plan.length > 300) {
            return tell(-100005);
        }
        All a = now.twin();
        for (int i = 0; i < plan.length; i++) {
            if (plan[i] != 0 && plan[i] != 1) {
                return i;
            }
        }
        for (int one : plan) {
            if (one == 1) {
                a.tax();
            }
            a.dayGoesBy();
        }
        return a.hunger() - now.hunger() <= v ? -1 : plan.length;
    }

    long beside(int person, long v, int n) {
        if (!man(person) || !most(v) || n < 1 || n > 30) {
            return tell(-100001);
        }
        if (now.day + n > 300) {
            return tell(-100005);
        }
        All a = now.twin();
        BigInteger gift = BigInteger.valueOf(v);
        a.printed = a.printed.add(gift);
        a.earn(a.men.get(person), gift);
        return gone(a, n).price().subtract(gone(now.twin(), n).price()).longValueExact();
    }

    long sheet(int s, int width, int n) {
        if (s < 0 || s > 3 || !List.of(0, 8, 16, 32).contains(width)) {
            return tell(-100001);
        }
        if (n < 0) {
            return tell(-100003);
        }
        if (n > 20) {
            return tell(-100001);
        }
        bits[s] = width;
        sheets[s] = width == 0 ? null : new int[n];
        return width == 0 ? 0 : n;
    }

    long put(int s, int i, int v) {
        if (s < 0 || s > 3) {
            return tell(-100001);
        }
        if (sheets[s] == null) {
            return tell(-100002);
        }
        if (i < 0 || i >= sheets[s].length) {
            return tell(-100001);
        }
        sheets[s][i] = bits[s] == 8 ? (byte) v : bits[s] == 16 ? (short) v : v;
        return 0;
    }

    long copy(int s, int from, int t, int to, int n) {
        if (s < 0 || s > 3 || t < 0 || t > 3) {
            return tell(-100001);
        }
        if (sheets[s] == null || sheets[t] == null) {
            return tell(-100002);
        }
        if (bits[s] != bits[t]) {
            return tell(-100004);
        }
        if (from < 0 || to < 0 || n < 0 || from > sheets[s].length - n || to > sheets[t].length - n) {
            return tell(-100001);
        }
        int[] old = sheets[s].clone();
        for (int i = 0; i < n; i++) {
            sheets[t][to + i] = old[from + i];
        }
        return n;
    }

    long image() {
        image = now.twin();
        return now.day;
    }

    long restore() {
        if (image == null) {
            return tell(-100006);
        }
        now = image.twin();
        return now.day;
    }

    long count(int what) {
        if (what < 0 || what > 9) {
            return tell(-100001);
        }
        BigInteger marks = BigInteger.ZERO;
        long loaves = 0;
        for (Man m : now.men) {
            marks = marks.add(m.marks);
            loaves += m.loaves;
        }
        long open = now.notes.stream().filter(n -> n.state.equals("OPEN")).count();
        long[] is = {now.men.size(), now.notes.size(), open, now.day, now.state.longValueExact(),
            marks.longValueExact(), now.printed.longValueExact(), now.burnt.longValueExact(), loaves, findings};
        return is[what];
    }
}
