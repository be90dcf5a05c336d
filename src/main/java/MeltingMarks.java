import java.util.Arrays;

/** Money that melts, as ../shared/DOC.md tells it: every call answers a long, or a finding. */
public final class MeltingMarks {
    private static final long BEYOND = -100001;
    private static final long MISSING = -100002;
    private static final long SIZE = -100003;
    private static final long KIND = -100004;
    private static final long FULL = -100005;
    private static final long NONE = -100006;
    private static final long LOW = -100008;

    private static final long MOST = 1000000000000000L;
    private static final int LAST_DAY = 300;
    private static final int MOST_PERSONS = 10;
    private static final int MOST_LOAVES = 9999;
    private static final int MOST_BAKES = 99;
    private static final int MOST_SPEND = 10;
    private static final int MOST_KEEP = 1000;
    private static final int MOST_PAPERS = 24;
    private static final int MOST_TAPE = 160;
    private static final int TEXTS = 5;
    private static final int COURTS = 2;
    private static final int MOST_LAWS = 12;
    private static final int MOST_RUN = 30;
    private static final int MOST_CHOICES = 8;
    private static final int MOST_HUNGER = 9999;
    private static final int SHEETS = 4;
    private static final int MOST_NUMBERS = 20;
    private static final int MOST_NOUGHTS = 9;

    private static final int KIND_PAPER = 0;
    private static final int KIND_DEBT = 1;
    private static final int KIND_GOLD = 2;
    private static final int KIND_RENT = 3;
    private static final int KIND_WAGE = 4;
    private static final int KIND_TOWN = 5;
    private static final int KINDS = 6;
    /** The kind that each kind is under; -1 above the uppermost. */
    private static final int[] UNDER = {-1, 0, 1, 1, 1, 0};

    private static final int STATE_OPEN = 0;
    private static final int STATE_PAID = 1;
    private static final int STATE_VOID = 2;
    /** Who a WAGE is BY. */
    private static final int THE_STATE = -1;

    /** Slots of WORD_SLOT signs: the seven NAMES, then the six KEYS. */
    private static final String WORDS =
        "sum   age   price first late  week  kind  debt  rent  wage  and   or    not   ";
    private static final int WORD_SLOT = 6;
    private static final int WORD_COUNT = 13;
    private static final int NAMES = 7;
    private static final String SIGNS = "();+-*/<=";
    private static final int MOST_DIGITS = 6;
    private static final int MOST_NESTING = 4;

    // A token is a number itself, or below 0: a word's slot or a sign's place, counted down.
    private static final int FIRST_WORD = -1;
    private static final int LAST_NAME = -7;
    private static final int KEY_DEBT = -8;
    private static final int KEY_RENT = -9;
    private static final int KEY_WAGE = -10;
    private static final int KEY_AND = -11;
    private static final int KEY_OR = -12;
    private static final int KEY_NOT = -13;
    private static final int FIRST_SIGN = -14;
    private static final int SIGN_OPEN = -14;
    private static final int SIGN_CLOSE = -15;
    private static final int SIGN_STOP = -16;
    private static final int SIGN_PLUS = -17;
    private static final int SIGN_MINUS = -18;
    private static final int SIGN_TIMES = -19;
    private static final int SIGN_BY = -20;
    private static final int SIGN_LESS = -21;
    private static final int SIGN_SAME = -22;
    private static final int TOKEN_END = -23;
    private static final int TOKEN_WRONG = -24;

    /** Five operands may wait in each of five levels of nesting: this is above all of them. */
    private static final int MOST_WAITING = 40;

    private final World now;
    private final World kept;
    private final Ahead lookout;
    private final Reader reader;
    private final Sheet[] sheets;
    private boolean hasImage;
    private long findings;

    public MeltingMarks() {
        Judge judge = new Judge();
        Market market = new Market();
        Laws laws = new Laws();
        long[] prices = new long[LAST_DAY + 1];
        now = new World(laws, prices, judge, market);
        kept = new World(new Laws(), new long[LAST_DAY + 1], judge, market);
        lookout = new Ahead(laws, prices, judge, market);
        reader = new Reader();
        sheets = new Sheet[SHEETS];
        for (int s = 0; s < SHEETS; s++) {
            sheets[s] = new Sheet();
        }
        hasImage = false;
        findings = 0;
        prices[0] = 1;
    }

    // ---- persons, papers

    public long person(long marks, int loaves, int bakes) {
        if (!within(marks, 0, MOST) || !within(loaves, 0, MOST_LOAVES) || !within(bakes, 0, MOST_BAKES)) {
            return found(BEYOND);
        }
        if (now.people >= MOST_PERSONS) {
            return found(FULL);
        }
        return now.addPerson(marks, loaves, bakes);
    }

    public long habit(int person, int what, int v) {
        if (!now.hasPerson(person) || !within(what, 0, 2) || !within(v, 0, mostOfHabit(what))) {
            return found(BEYOND);
        }
        return now.persons[person].changeHabit(what, v);
    }

    public long personIs(int person, int what) {
        if (!now.hasPerson(person) || !within(what, 0, 7)) {
            return found(BEYOND);
        }
        return now.persons[person].tell(what);
    }

    public long gain(int person, boolean loss) {
        if (!now.hasPerson(person)) {
            return found(BEYOND);
        }
        return loss ? now.persons[person].lost : now.persons[person].gained;
    }

    public long paper(int kind, int who, long sum, int due) {
        if (!within(kind, 0, KINDS - 1) || who < 0 || !now.hasPerson(who % 100)
            || !within(sum, 1, MOST) || !within(due, now.day, LAST_DAY)) {
            return found(BEYOND);
        }
        int by = who / 100;
        int to = who % 100;
        if (kind == KIND_WAGE ? by != 0 : !now.hasPerson(by)) {
            return found(BEYOND);
        }
        if (kind != KIND_WAGE && by == to) {
            return found(SIZE);
        }
        if (now.written >= MOST_PAPERS) {
            return found(FULL);
        }
        return now.addPaper(kind, kind == KIND_WAGE ? THE_STATE : by, to, sum, due);
    }

    public long as(int paper, int kind) {
        if (!now.hasPaper(paper) || !within(kind, 0, KINDS - 1)) {
            return found(BEYOND);
        }
        if (!now.papers[paper].isUnder(kind)) {
            return found(KIND);
        }
        return paper;
    }

    public long paperIs(int paper, int what) {
        if (!now.hasPaper(paper) || !within(what, 0, 6)) {
            return found(BEYOND);
        }
        return now.papers[paper].tell(what);
    }

    public long owed(int paper, int court) {
        if (!now.hasPaper(paper) || !isCourt(court)) {
            return found(BEYOND);
        }
        if (!now.papers[paper].isOpen()) {
            return found(NONE);
        }
        return ruling(now.papers[paper], court);
    }

    public long pay(int paper) {
        if (!now.hasPaper(paper)) {
            return found(BEYOND);
        }
        Paper paid = now.papers[paper];
        if (!paid.isOpen()) {
            return found(NONE);
        }
        if (paid.kind == KIND_RENT || paid.kind == KIND_WAGE || !now.hasPerson(paid.by)) {
            return found(KIND);
        }
        long sum = ruling(paid, 0);
        if (now.persons[paid.by].marks < sum) {
            return found(LOW);
        }
        now.handOver(paid, sum);
        now.closePaid(paid, sum);
        return sum;
    }

    public long tear(int paper) {
        if (!now.hasPaper(paper)) {
            return found(BEYOND);
        }
        Paper torn = now.papers[paper];
        if (!torn.isOpen()) {
            return found(NONE);
        }
        torn.state = STATE_VOID;
        return torn.sum;
    }

    public long thin() {
        long bits = 0;
        for (int i = 0; i < now.people; i++) {
            if (now.isThin(i)) {
                bits |= 1L << i;
            }
        }
        return bits;
    }

    // ---- texts, laws

    public long feed(int n, long bytes) {
        if (!within(n, 1, 8)) {
            return found(BEYOND);
        }
        if (reader.length + n > MOST_TAPE) {
            return found(FULL);
        }
        reader.append(n, bytes);
        return reader.length;
    }

    public long text(int t) {
        if (!within(t, 0, TEXTS - 1)) {
            return found(BEYOND);
        }
        Code code = reader.readTape();
        reader.length = 0;
        if (code == null) {
            return reader.fault;
        }
        now.laws.texts[t] = code;
        return -1;
    }

    public long force(int t, int court, int day) {
        if (!within(t, 0, TEXTS - 1) || !isCourt(court) || !within(day, 0, LAST_DAY)) {
            return found(BEYOND);
        }
        if (now.laws.texts[t] == null) {
            return found(NONE);
        }
        if (now.laws.made >= MOST_LAWS) {
            return found(FULL);
        }
        return now.laws.enact(now.laws.texts[t], court, day);
    }

    public long law(int court, int day) {
        if (!isCourt(court) || !within(day, 0, LAST_DAY)) {
            return found(BEYOND);
        }
        int number = now.laws.latest(court, day);
        if (number < 0) {
            return found(NONE);
        }
        return number;
    }

    public long unlike() {
        for (int i = 0; i < now.written; i++) {
            Paper ruled = now.papers[i];
            if (ruled.isOpen() && ruling(ruled, 0) != ruling(ruled, 1)) {
                return i;
            }
        }
        return found(NONE);
    }

    // ---- days

    public long days(int n) {
        if (!within(n, 1, MOST_RUN)) {
            return found(BEYOND);
        }
        if (now.day + n > LAST_DAY) {
            return found(FULL);
        }
        for (int i = 0; i < n; i++) {
            now.goDay();
        }
        return now.priceOn(now.day);
    }

    public long price(int day) {
        if (!within(day, 0, now.day)) {
            return found(BEYOND);
        }
        return now.priceOn(day);
    }

    public long index(int day, int base) {
        if (!within(day, 0, now.day) || !within(base, 0, now.day)) {
            return found(BEYOND);
        }
        return Math.min(MOST, now.priceOn(day) * 100 / now.priceOn(base));
    }

    public long press(long n) {
        if (!within(n, 0, MOST)) {
            return found(BEYOND);
        }
        now.printed += n;
        now.creditState(n);
        return now.state;
    }

    public long give(int person, long n) {
        if (!now.hasPerson(person) || !within(n, 1, MOST)) {
            return found(BEYOND);
        }
        if (now.state < n) {
            return found(LOW);
        }
        now.state -= n;
        now.credit(now.persons[person], n);
        return now.persons[person].marks;
    }

    public long tax() {
        return now.collectTax();
    }

    public long swap(int k) {
        if (!within(k, 1, MOST_NOUGHTS)) {
            return found(BEYOND);
        }
        now.cutNoughts(k);
        return now.priceOn(now.day);
    }

    // ---- ahead

    public long need(int n) {
        if (!within(n, 1, MOST_RUN)) {
            return found(BEYOND);
        }
        if (now.day + n > LAST_DAY) {
            return found(FULL);
        }
        return lookout.printedIn(now, n);
    }

    public long melts(int n) {
        if (!within(n, 1, MOST_RUN)) {
            return found(BEYOND);
        }
        if (now.day + n > LAST_DAY) {
            return found(FULL);
        }
        int after = lookout.daysToMelting(now, n);
        if (after < 0) {
            return found(NONE);
        }
        return after;
    }

    public long choices(int n, int what) {
        if (!within(n, 1, MOST_CHOICES) || !within(what, 0, 2)) {
            return found(BEYOND);
        }
        if (now.day + n > LAST_DAY) {
            return found(FULL);
        }
        lookout.beginSearch(now);
        lookout.search(0, n, 0);
        if (what == 0) {
            return lookout.bestNumber;
        }
        return what == 1 ? lookout.bestHunger : lookout.bestPrice;
    }

    public long proves(int v, int sheet) {
        if (!within(v, 0, MOST_HUNGER) || !isSheet(sheet)) {
            return found(BEYOND);
        }
        Sheet plan = sheets[sheet];
        if (plan.isMissing()) {
            return found(MISSING);
        }
        if (now.day + plan.size > LAST_DAY) {
            return found(FULL);
        }
        int place = plan.firstNoBit();
        if (place < plan.size) {
            return place;
        }
        return lookout.hungerBy(now, plan) <= v ? -1 : plan.size;
    }

    public long beside(int person, long v, int n) {
        if (!now.hasPerson(person) || !within(v, 0, MOST) || !within(n, 1, MOST_RUN)) {
            return found(BEYOND);
        }
        if (now.day + n > LAST_DAY) {
            return found(FULL);
        }
        return lookout.priceWith(now, person, v, n) - lookout.priceWith(now, person, 0, n);
    }

    // ---- sheets, the whole

    public long sheet(int s, int bits, int n) {
        if (!isSheet(s) || (bits != 0 && bits != 8 && bits != 16 && bits != 32)) {
            return found(BEYOND);
        }
        if (n < 0) {
            return found(SIZE);
        }
        if (n > MOST_NUMBERS) {
            return found(BEYOND);
        }
        sheets[s].lay(bits, bits == 0 ? 0 : n);
        return sheets[s].size;
    }

    public long put(int s, int i, int v) {
        if (!isSheet(s)) {
            return found(BEYOND);
        }
        if (sheets[s].isMissing()) {
            return found(MISSING);
        }
        if (!within(i, 0, sheets[s].size - 1)) {
            return found(BEYOND);
        }
        sheets[s].write(i, v);
        return 0;
    }

    public long copy(int s, int from, int t, int to, int n) {
        if (!isSheet(s) || !isSheet(t)) {
            return found(BEYOND);
        }
        Sheet source = sheets[s];
        Sheet target = sheets[t];
        if (source.isMissing() || target.isMissing()) {
            return found(MISSING);
        }
        if (source.bits != target.bits) {
            return found(KIND);
        }
        if (!source.hasRun(from, n) || !target.hasRun(to, n)) {
            return found(BEYOND);
        }
        System.arraycopy(source.numbers, from, target.numbers, to, n);
        return n;
    }

    public long image() {
        kept.takeAll(now);
        hasImage = true;
        return now.day;
    }

    public long restore() {
        if (!hasImage) {
            return found(NONE);
        }
        now.takeAll(kept);
        return now.day;
    }

    public long count(int what) {
        if (!within(what, 0, 9)) {
            return found(BEYOND);
        }
        return what == 9 ? findings : now.tally(what);
    }

    /** Counted here and not by the answer's value: a GAIN may be as low as a finding. */
    private long found(long finding) {
        findings++;
        return finding;
    }

    private long ruling(Paper paper, int court) {
        return now.judge.rule(now, paper, court);
    }

    private static boolean within(long v, long least, long most) {
        return v >= least && v <= most;
    }

    private static boolean isCourt(int court) {
        return within(court, 0, COURTS - 1);
    }

    private static boolean isSheet(int s) {
        return within(s, 0, SHEETS - 1);
    }

    private static int mostOfHabit(int what) {
        if (what == 0) {
            return MOST_SPEND;
        }
        return what == 1 ? MOST_KEEP : MOST_BAKES;
    }

    private static final class Person {
        long marks;
        int loaves;
        int bakes;
        int spend;
        int keep;
        int hungered;
        long sold;
        long bought;
        long gained;
        long lost;

        void begin(long firstMarks, int firstLoaves, int firstBakes) {
            marks = firstMarks;
            loaves = firstLoaves;
            bakes = firstBakes;
            spend = 5;
            keep = MOST_KEEP;
            hungered = 0;
            sold = 0;
            bought = 0;
            gained = 0;
            lost = 0;
        }

        void take(Person other) {
            marks = other.marks;
            loaves = other.loaves;
            bakes = other.bakes;
            spend = other.spend;
            keep = other.keep;
            hungered = other.hungered;
            sold = other.sold;
            bought = other.bought;
            gained = other.gained;
            lost = other.lost;
        }

        int changeHabit(int what, int v) {
            int was;
            if (what == 0) {
                was = spend;
                spend = v;
            } else if (what == 1) {
                was = keep;
                keep = v;
            } else {
                was = bakes;
                bakes = v;
            }
            return was;
        }

        long tell(int what) {
            switch (what) {
                case 0: return marks;
                case 1: return loaves;
                case 2: return bakes;
                case 3: return spend;
                case 4: return keep;
                case 5: return hungered;
                case 6: return sold;
                default: return bought;
            }
        }

        void bakeLoaves() {
            loaves = Math.min(MOST_LOAVES, loaves + bakes);
        }

        void eatLoaf() {
            if (loaves > 0) {
                loaves--;
            } else {
                hungered++;
            }
        }
    }

    private static final class Paper {
        int kind;
        int by;
        int to;
        long sum;
        int since;
        int due;
        int state;

        void take(Paper other) {
            kind = other.kind;
            by = other.by;
            to = other.to;
            sum = other.sum;
            since = other.since;
            due = other.due;
            state = other.state;
        }

        boolean isOpen() {
            return state == STATE_OPEN;
        }

        /** A RENT or a WAGE is of kind DEBT, too, but only these two are paid back as a whole. */
        boolean isPaidAtOnce() {
            return kind == KIND_DEBT || kind == KIND_GOLD;
        }

        boolean isUnder(int upper) {
            int at = kind;
            for (int up = 0; up < KINDS && at >= 0 && at < UNDER.length; up++) {
                if (at == upper) {
                    return true;
                }
                at = UNDER[at];
            }
            return false;
        }

        boolean isPayDay(int day) {
            if (kind == KIND_RENT) {
                return day % 10 == 0;
            }
            return isPaidAtOnce() && due <= day;
        }

        boolean endsOn(int day) {
            return (kind == KIND_RENT || kind == KIND_WAGE) && due == day;
        }

        long tell(int what) {
            switch (what) {
                case 0: return kind;
                case 1: return by;
                case 2: return to;
                case 3: return sum;
                case 4: return since;
                case 5: return due;
                default: return state;
            }
        }
    }

    /** A TEXT made ready: three runs of steps, operands ahead of what is done with them; never changed. */
    private static final class Code {
        final int[] steps;
        final int rentAt;
        final int wageAt;

        Code(int[] steps, int rentAt, int wageAt) {
            this.steps = steps;
            this.rentAt = rentAt;
            this.wageAt = wageAt;
        }

        int startFor(int kind) {
            if (kind == KIND_RENT) {
                return rentAt;
            }
            return kind == KIND_WAGE ? wageAt : 0;
        }

        int endFor(int kind) {
            if (kind == KIND_RENT) {
                return wageAt;
            }
            return kind == KIND_WAGE ? steps.length : rentAt;
        }

        long run(int kind, long[] names, long[] waiting) {
            int top = 0;
            int end = endFor(kind);
            for (int i = startFor(kind); i < end && i < steps.length; i++) {
                int step = steps[i];
                if (step >= LAST_NAME && top < waiting.length) {
                    waiting[top] = step >= 0 ? step : names[FIRST_WORD - step];
                    top++;
                } else if (step == KEY_NOT && top >= 1) {
                    waiting[top - 1] = waiting[top - 1] == 0 ? 1 : 0;
                } else if (top >= 2) {
                    waiting[top - 2] = join(step, waiting[top - 2], waiting[top - 1]);
                    top--;
                }
            }
            return waiting[0];
        }

        static long join(int step, long a, long b) {
            switch (step) {
                case KEY_OR: return a != 0 || b != 0 ? 1 : 0;
                case KEY_AND: return a != 0 && b != 0 ? 1 : 0;
                case SIGN_LESS: return a < b ? 1 : 0;
                case SIGN_SAME: return a == b ? 1 : 0;
                case SIGN_PLUS: return a + b;
                case SIGN_MINUS: return a - b;
                case SIGN_TIMES: return a * b;
                default: return b == 0 ? 0 : a / b;
            }
        }
    }

    /** THE TAPE, and the one pass over it that makes a Code or finds the FAULT. */
    private static final class Reader {
        final byte[] tape = new byte[MOST_TAPE];
        final int[] steps = new int[MOST_TAPE];
        int length;
        int made;
        int place;
        int token;
        int tokenAt;
        int fault;

        void append(int n, long bytes) {
            for (int i = 0; i < n && length < tape.length; i++) {
                tape[length] = (byte) (bytes >>> (8 * i));
                length++;
            }
        }

        Code readTape() {
            made = 0;
            place = 0;
            fault = -1;
            advance();
            readClause(KEY_DEBT);
            int rentAt = made;
            readClause(KEY_RENT);
            int wageAt = made;
            readClause(KEY_WAGE);
            expect(TOKEN_END);
            if (fault >= 0) {
                return null;
            }
            return new Code(Arrays.copyOf(steps, made), rentAt, wageAt);
        }

        private void readClause(int key) {
            expect(key);
            readOr(0);
            expect(SIGN_STOP);
        }

        private void readOr(int depth) {
            readAnd(depth);
            for (int i = 0; i < MOST_TAPE && token == KEY_OR; i++) {
                advance();
                readAnd(depth);
                emit(KEY_OR);
            }
        }

        private void readAnd(int depth) {
            readNot(depth);
            for (int i = 0; i < MOST_TAPE && token == KEY_AND; i++) {
                advance();
                readNot(depth);
                emit(KEY_AND);
            }
        }

        private void readNot(int depth) {
            if (token == KEY_NOT) {
                if (depth >= MOST_NESTING) {
                    refuse();
                    return;
                }
                advance();
                readNot(depth + 1);
                emit(KEY_NOT);
                return;
            }
            readSum(depth);
            if (token == SIGN_LESS || token == SIGN_SAME) {
                int sign = token;
                advance();
                readSum(depth);
                emit(sign);
            }
        }

        private void readSum(int depth) {
            readOne(depth);
            for (int i = 0; i < MOST_TAPE && (token == SIGN_PLUS || token == SIGN_MINUS); i++) {
                int sign = token;
                advance();
                readOne(depth);
                emit(sign);
            }
        }

        private void readOne(int depth) {
            readValue(depth);
            for (int i = 0; i < MOST_TAPE && (token == SIGN_TIMES || token == SIGN_BY); i++) {
                int sign = token;
                advance();
                readValue(depth);
                emit(sign);
            }
        }

        private void readValue(int depth) {
            if (token >= LAST_NAME) {
                emit(token);
                advance();
            } else if (token == SIGN_OPEN && depth < MOST_NESTING) {
                advance();
                readOr(depth + 1);
                expect(SIGN_CLOSE);
            } else {
                refuse();
            }
        }

        private void expect(int wanted) {
            if (token == wanted) {
                advance();
            } else {
                refuse();
            }
        }

        /** The token stays wrong from here on, so that nothing is read behind the first FAULT. */
        private void refuse() {
            if (fault < 0) {
                fault = tokenAt;
            }
            token = TOKEN_WRONG;
        }

        private void emit(int step) {
            if (made < steps.length) {
                steps[made] = step;
                made++;
            }
        }

        private void advance() {
            while (place < length && tape[place] == ' ') {
                place++;
            }
            tokenAt = place;
            if (place >= length) {
                token = TOKEN_END;
            } else if (isLetter(tape[place])) {
                token = nextWord();
            } else if (isDigit(tape[place])) {
                token = nextNumber();
            } else {
                token = nextSign();
            }
        }

        private int nextWord() {
            int start = place;
            while (place < length && isLetter(tape[place])) {
                place++;
            }
            for (int slot = 0; slot < WORD_COUNT; slot++) {
                if (isWord(slot, start, place - start)) {
                    return FIRST_WORD - slot;
                }
            }
            return TOKEN_WRONG;
        }

        private boolean isWord(int slot, int start, int size) {
            int from = slot * WORD_SLOT;
            if (size >= WORD_SLOT || WORDS.charAt(from + size) != ' ') {
                return false;
            }
            for (int i = 0; i < size; i++) {
                if (WORDS.charAt(from + i) != tape[start + i]) {
                    return false;
                }
            }
            return true;
        }

        private int nextNumber() {
            int start = place;
            int number = 0;
            while (place < length && isDigit(tape[place])) {
                if (place - start < MOST_DIGITS) {
                    number = number * 10 + (tape[place] - '0');
                }
                place++;
            }
            return place - start > MOST_DIGITS ? TOKEN_WRONG : number;
        }

        private int nextSign() {
            for (int i = 0; i < SIGNS.length(); i++) {
                if (SIGNS.charAt(i) == tape[place]) {
                    place++;
                    return FIRST_SIGN - i;
                }
            }
            return TOKEN_WRONG;
        }

        private static boolean isLetter(byte b) {
            return b >= 'a' && b <= 'z';
        }

        private static boolean isDigit(byte b) {
            return b >= '0' && b <= '9';
        }
    }

    /** The TEXTS and the LAWS; a LAW holds the Code of its TEXT, which is never changed. */
    private static final class Laws {
        final Code[] texts = new Code[TEXTS];
        final Code[] codes = new Code[MOST_LAWS];
        final int[] courts = new int[MOST_LAWS];
        final int[] from = new int[MOST_LAWS];
        int made;

        void take(Laws other) {
            for (int t = 0; t < TEXTS; t++) {
                texts[t] = other.texts[t];
            }
            for (int i = 0; i < MOST_LAWS; i++) {
                codes[i] = other.codes[i];
                courts[i] = other.courts[i];
                from[i] = other.from[i];
            }
            made = other.made;
        }

        int enact(Code code, int court, int day) {
            if (made >= MOST_LAWS) {
                return -1;
            }
            codes[made] = code;
            courts[made] = court;
            from[made] = day;
            made++;
            return made - 1;
        }

        int latest(int court, int day) {
            for (int i = made - 1; i >= 0; i--) {
                if (courts[i] == court && from[i] <= day) {
                    return i;
                }
            }
            return -1;
        }
    }

    /** Says what is OWED; its rows are used again for each ruling. */
    private static final class Judge {
        final long[] names = new long[NAMES];
        final long[] waiting = new long[MOST_WAITING];

        long rule(World world, Paper paper, int court) {
            if (paper.kind == KIND_PAPER || paper.kind == KIND_TOWN) {
                return paper.sum;
            }
            if (paper.kind == KIND_GOLD) {
                return goldIn(paper.sum, world.priceOn(world.day));
            }
            int number = world.laws.latest(court, world.day);
            if (number < 0 || world.laws.codes[number] == null) {
                return paper.sum;
            }
            fillNames(world, paper);
            long v = world.laws.codes[number].run(paper.kind, names, waiting);
            return Math.max(0, Math.min(MOST, v));
        }

        /** The quotient is asked first, as the product may not fit a long. */
        private static long goldIn(long sum, long price) {
            return sum > MOST / price ? MOST : sum * price;
        }

        private void fillNames(World world, Paper paper) {
            int day = world.day;
            names[0] = paper.sum;
            names[1] = day - paper.since;
            names[2] = world.priceOn(day);
            names[3] = world.priceOn(paper.since);
            names[4] = world.priceOn(Math.max(0, day - 3));
            names[5] = world.priceOn(day - day % 7);
            names[6] = paper.kind;
        }
    }

    /** What is ASKED and OFFERED on a DAY; its rows are used again for each. */
    private static final class Market {
        final long[] asks = new long[MOST_PERSONS];
        final int[] offers = new int[MOST_PERSONS];

        /** Who ASKED buys; the answer is the PRICE of the next DAY. */
        long hold(World world) {
            long asked = 0;
            long offered = 0;
            for (int i = 0; i < world.people; i++) {
                Person person = world.persons[i];
                asks[i] = person.marks * person.spend / 10;
                offers[i] = world.keepsBack(person) ? 0 : Math.max(0, person.loaves - 1);
                asked += asks[i];
                offered += offers[i];
            }
            if (offered <= 0) {
                return world.priceOn(world.day);
            }
            long price = Math.max(1, Math.min(MOST, asked / offered));
            for (int i = 0; i < world.people; i++) {
                buyFor(world, i, price);
            }
            return price;
        }

        private void buyFor(World world, int buyer, long price) {
            int room = MOST_LOAVES - world.persons[buyer].loaves;
            int wanted = (int) Math.min(room, asks[buyer] / price);
            for (int seller = 0; seller < world.people && wanted > 0; seller++) {
                if (seller != buyer) {
                    int n = Math.min(wanted, offers[seller]);
                    wanted -= n;
                    offers[seller] -= n;
                    world.trade(world.persons[buyer], world.persons[seller], n, price);
                }
            }
        }
    }

    /**
     * All that an IMAGE has. The worlds of what is asked ahead share laws and prices with the one
     * of THE DAY: they write only the PRICES of days to come, which nobody reads before they are made.
     */
    private static final class World {
        final Person[] persons = new Person[MOST_PERSONS];
        final Paper[] papers = new Paper[MOST_PAPERS];
        final Laws laws;
        final long[] prices;
        final Judge judge;
        final Market market;
        int people;
        int written;
        int day;
        long state;
        long printed;
        long burnt;

        World(Laws laws, long[] prices, Judge judge, Market market) {
            this.laws = laws;
            this.prices = prices;
            this.judge = judge;
            this.market = market;
            for (int i = 0; i < MOST_PERSONS; i++) {
                persons[i] = new Person();
            }
            for (int i = 0; i < MOST_PAPERS; i++) {
                papers[i] = new Paper();
            }
        }

        /** All but laws and prices. */
        void takeMoving(World other) {
            people = other.people;
            written = other.written;
            day = other.day;
            state = other.state;
            printed = other.printed;
            burnt = other.burnt;
            for (int i = 0; i < people; i++) {
                persons[i].take(other.persons[i]);
            }
            for (int i = 0; i < written; i++) {
                papers[i].take(other.papers[i]);
            }
        }

        void takeAll(World other) {
            takeMoving(other);
            laws.take(other.laws);
            System.arraycopy(other.prices, 0, prices, 0, LAST_DAY + 1);
        }

        boolean hasPerson(int i) {
            return i >= 0 && i < people;
        }

        boolean hasPaper(int i) {
            return i >= 0 && i < written;
        }

        int addPerson(long marks, int loaves, int bakes) {
            if (people >= MOST_PERSONS) {
                return -1;
            }
            persons[people].begin(marks, loaves, bakes);
            people++;
            return people - 1;
        }

        int addPaper(int kind, int by, int to, long sum, int due) {
            if (written >= MOST_PAPERS) {
                return -1;
            }
            Paper paper = papers[written];
            paper.kind = kind;
            paper.by = by;
            paper.to = to;
            paper.sum = sum;
            paper.since = day;
            paper.due = due;
            paper.state = STATE_OPEN;
            written++;
            return written - 1;
        }

        /** 1 at least, always: it is a divisor. */
        long priceOn(int when) {
            return when >= 0 && when <= LAST_DAY && prices[when] > 1 ? prices[when] : 1;
        }

        void credit(Person person, long n) {
            person.marks += n;
            if (person.marks > MOST) {
                burnt += person.marks - MOST;
                person.marks = MOST;
            }
        }

        void creditState(long n) {
            state += n;
            if (state > MOST) {
                burnt += state - MOST;
                state = MOST;
            }
        }

        void handOver(Paper paper, long n) {
            if (hasPerson(paper.by) && hasPerson(paper.to)) {
                persons[paper.by].marks -= n;
                credit(persons[paper.to], n);
            }
        }

        void closePaid(Paper paper, long paid) {
            paper.state = STATE_PAID;
            if (paper.isPaidAtOnce() && hasPerson(paper.by) && hasPerson(paper.to)) {
                long won = paper.sum / priceOn(paper.since) - paid / priceOn(day);
                persons[paper.by].gained += won;
                persons[paper.to].lost += won;
            }
        }

        boolean isThin(int person) {
            long notes = 0;
            for (int i = 0; i < written; i++) {
                Paper paper = papers[i];
                if (paper.kind == KIND_TOWN && paper.isOpen() && paper.by == person) {
                    notes += paper.sum;
                }
            }
            return notes > persons[person].marks;
        }

        boolean keepsBack(Person person) {
            return day > 0 && 100 * priceOn(day) >= (100 + person.keep) * priceOn(day - 1);
        }

        void trade(Person buyer, Person seller, int n, long price) {
            seller.loaves -= n;
            seller.sold += n;
            credit(seller, n * price);
            buyer.loaves += n;
            buyer.bought += n;
            buyer.marks -= n * price;
        }

        void goDay() {
            if (day >= LAST_DAY) {
                return;
            }
            for (int i = 0; i < people; i++) {
                persons[i].bakeLoaves();
            }
            payWages();
            prices[day + 1] = market.hold(this);
            for (int i = 0; i < people; i++) {
                persons[i].eatLoaf();
            }
            payDebts();
            day++;
        }

        private void payWages() {
            for (int i = 0; i < written; i++) {
                Paper paper = papers[i];
                if (paper.kind == KIND_WAGE && paper.isOpen() && hasPerson(paper.to)) {
                    long wage = judge.rule(this, paper, 0);
                    long lack = Math.max(0, wage - state);
                    printed += lack;
                    state -= wage - lack;
                    credit(persons[paper.to], wage);
                }
            }
        }

        private void payDebts() {
            for (int i = 0; i < written; i++) {
                Paper paper = papers[i];
                if (paper.isOpen() && paper.isPayDay(day) && hasPerson(paper.by)) {
                    payAsFarAsItGoes(paper, judge.rule(this, paper, 0));
                }
                if (paper.isOpen() && paper.endsOn(day)) {
                    paper.state = STATE_PAID;
                }
            }
        }

        private void payAsFarAsItGoes(Paper paper, long owes) {
            long paid = Math.min(owes, persons[paper.by].marks);
            handOver(paper, paid);
            if (paper.isPaidAtOnce() && paid == owes) {
                closePaid(paper, paid);
            }
        }

        long collectTax() {
            long got = 0;
            for (int i = 0; i < people; i++) {
                long share = persons[i].marks / 10;
                persons[i].marks -= share;
                got += share;
            }
            creditState(got);
            return got;
        }

        void cutNoughts(int k) {
            long by = 1;
            for (int i = 0; i < k; i++) {
                by *= 10;
            }
            burnt += state - state / by;
            state /= by;
            for (int i = 0; i < people; i++) {
                burnt += persons[i].marks - persons[i].marks / by;
                persons[i].marks /= by;
            }
            for (int i = 0; i < written; i++) {
                if (papers[i].isOpen()) {
                    papers[i].sum /= by;
                }
            }
            for (int i = 0; i <= day; i++) {
                prices[i] = Math.max(1, prices[i] / by);
            }
        }

        long hungerOfAll() {
            long sum = 0;
            for (int i = 0; i < people; i++) {
                sum += persons[i].hungered;
            }
            return sum;
        }

        long tally(int what) {
            switch (what) {
                case 0: return people;
                case 1: return written;
                case 2: return openPapers();
                case 3: return day;
                case 4: return state;
                case 5: return marksOfAll();
                case 6: return printed;
                case 7: return burnt;
                default: return loavesOfAll();
            }
        }

        private long openPapers() {
            long open = 0;
            for (int i = 0; i < written; i++) {
                if (papers[i].isOpen()) {
                    open++;
                }
            }
            return open;
        }

        private long marksOfAll() {
            long sum = 0;
            for (int i = 0; i < people; i++) {
                sum += persons[i].marks;
            }
            return sum;
        }

        private long loavesOfAll() {
            long sum = 0;
            for (int i = 0; i < people; i++) {
                sum += persons[i].loaves;
            }
            return sum;
        }
    }

    /** What is asked ahead, gone through in worlds of its own: worlds[k] is k days on in a search. */
    private static final class Ahead {
        final World[] worlds = new World[MOST_CHOICES + 1];
        long hungerBefore;
        long bestHunger;
        long bestPrice;
        int bestTaxes;
        int bestNumber;

        Ahead(Laws laws, long[] prices, Judge judge, Market market) {
            for (int i = 0; i < worlds.length; i++) {
                worlds[i] = new World(laws, prices, judge, market);
            }
        }

        long printedIn(World now, int n) {
            World world = worlds[0];
            world.takeMoving(now);
            for (int i = 0; i < n; i++) {
                world.goDay();
            }
            return world.printed - now.printed;
        }

        int daysToMelting(World now, int n) {
            World world = worlds[0];
            world.takeMoving(now);
            for (int i = 1; i <= n; i++) {
                world.goDay();
                if (world.priceOn(world.day) >= 2 * world.priceOn(world.day - 1)) {
                    return i;
                }
            }
            return -1;
        }

        /** A wage is printed where THE STATE lacks it, so no PRICE hangs on what THE STATE has. */
        long priceWith(World now, int person, long gift, int n) {
            World world = worlds[0];
            world.takeMoving(now);
            world.credit(world.persons[person], gift);
            for (int i = 0; i < n; i++) {
                world.goDay();
            }
            return world.priceOn(world.day);
        }

        long hungerBy(World now, Sheet plan) {
            World world = worlds[0];
            world.takeMoving(now);
            for (int i = 0; i < plan.size; i++) {
                if (plan.numbers[i] == 1) {
                    world.collectTax();
                }
                world.goDay();
            }
            return world.hungerOfAll() - now.hungerOfAll();
        }

        void beginSearch(World now) {
            worlds[0].takeMoving(now);
            hungerBefore = now.hungerOfAll();
            bestNumber = -1;
        }

        private void search(int depth, int n, int number) {
            if (depth >= n || depth >= MOST_CHOICES) {
                weigh(worlds[depth], number);
                return;
            }
            World next = worlds[depth + 1];
            next.takeMoving(worlds[depth]);
            next.goDay();
            search(depth + 1, n, number);
            next.takeMoving(worlds[depth]);
            next.collectTax();
            next.goDay();
            search(depth + 1, n, number | 1 << depth);
        }

        private void weigh(World end, int number) {
            long hunger = end.hungerOfAll() - hungerBefore;
            long price = end.priceOn(end.day);
            int taxes = Integer.bitCount(number);
            if (bestNumber < 0 || isBetter(hunger, price, taxes, number)) {
                bestHunger = hunger;
                bestPrice = price;
                bestTaxes = taxes;
                bestNumber = number;
            }
        }

        private boolean isBetter(long hunger, long price, int taxes, int number) {
            if (hunger != bestHunger) {
                return hunger < bestHunger;
            }
            if (price != bestPrice) {
                return price < bestPrice;
            }
            return taxes != bestTaxes ? taxes < bestTaxes : number < bestNumber;
        }
    }

    private static final class Sheet {
        final int[] numbers = new int[MOST_NUMBERS];
        int bits;
        int size;

        boolean isMissing() {
            return bits == 0;
        }

        void lay(int newBits, int newSize) {
            bits = newBits;
            size = newSize;
            Arrays.fill(numbers, 0);
        }

        void write(int i, int v) {
            if (i >= 0 && i < size) {
                numbers[i] = bits == 32 ? v : v & ((1 << bits) - 1);
            }
        }

        /** In longs, as from and n together may not fit an int. */
        boolean hasRun(int from, int n) {
            return from >= 0 && n >= 0 && (long) from + n <= size;
        }

        /** The place of the first number that is neither 0 nor 1; the size, if there is none. */
        int firstNoBit() {
            for (int i = 0; i < size; i++) {
                if (numbers[i] != 0 && numbers[i] != 1) {
                    return i;
                }
            }
            return size;
        }
    }
}
