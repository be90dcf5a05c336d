/** The sentences of Term 2 that name a bound: the tape, each token, each FAULT, what wraps and is cut, what is OWED. */
public final class TextEdgesTest {
    private static final Check C = new Check("TextEdgesTest");
    private static final long MOST = Check.MOST;
    private static final String REST = ";rent 0;wage 0;";
    private static final String[] NAMES = {"sum", "age", "price", "first", "late", "week", "kind"};
    private static final String[] KEYS = {"debt", "rent", "wage", "and", "or", "not"};
    private static final String SIGNS = "();+-*/<=";

    public static void main(String[] args) {
        tapeOf160();
        lowestBytesFirst();
        everyByteAsAValue();
        everyByteBehindAValue();
        everyByteBehindAWord();
        everyByteAsTheFirst();
        wordsNextToWords();
        namesAndKeys();
        numbers();
        tokensAsLongAsCanBe();
        everyEnd();
        nesting();
        nestingEndsWithItsClause();
        clauses();
        ranks();
        oneOrNothing();
        wraps();
        quotients();
        fiveTexts();
        textAsItIsThen();
        lawDays();
        owedBounds();
        gold();
        lateAndWeek();
        unlike();
        C.end();
    }

    private static void fault(String text, long want) {
        C.due("text '" + text + "'", Check.tell(new MeltingMarks(), 0, text), want);
    }

    /** By COURT 0, of a DEBT of 50 in a law with this clause. */
    private static void value(String expression, long want) {
        MeltingMarks x = persons();
        x.paper(1, 1, 50, 300);
        C.due("text " + expression, Check.tell(x, 0, "debt " + expression + REST), -1);
        x.force(0, 0, 0);
        C.due(expression, x.owed(0, 0), want);
    }

    private static MeltingMarks persons() {
        MeltingMarks x = new MeltingMarks();
        x.person(0, 0, 0);
        x.person(0, 0, 0);
        x.habit(0, 0, 0);
        x.habit(1, 0, 0);
        return x;
    }

    // "A TEXT stands on THE TAPE (160 bytes at most)".
    private static void tapeOf160() {
        String text = "debt 1;rent 2;wage 3;";
        String blanks = " ".repeat(160 - text.length());
        fault(text + blanks, -1);
        fault(blanks + text, -1);
        fault("debt" + blanks + " 1;rent 2;wage 3;", -1);
        fault("debt 1;rent 2;wage 3" + blanks + ";", -1);
        fault("debt 1;rent 2;wage 3 " + blanks, 160);
        fault("debt 1;rent 2;wage 3" + blanks + "x", 159);
        fault("debt" + " ".repeat(156), 160);
        fault("debt " + "1+".repeat(77) + "1", 160);
        fault("debt " + "1+".repeat(69) + "1" + ";rent 2;wage 3;" + " ", -1);
        fault("debt 1" + "+1".repeat(69) + ";rent 2;wage 3;;", 159);
        MeltingMarks x = persons();
        x.paper(1, 1, 50, 300);
        x.paper(3, 1, 50, 300);
        x.paper(4, 1, 50, 300);
        C.due("text", Check.tell(x, 0, "debt 1" + "+1".repeat(69) + ";rent 2;wage 3; "), -1);
        x.force(0, 0, 0);
        C.due("all 70 of them", x.owed(0, 0), 70);
        C.due("rent", x.owed(1, 0), 2);
        C.due("wage", x.owed(2, 0), 3);
    }

    // Promise 13: "The n lowest bytes of a number, the lowest first, come behind THE TAPE: how many it has."
    private static void lowestBytesFirst() {
        for (int n = 1; n <= 8; n++) {
            MeltingMarks x = new MeltingMarks();
            long garbage = n == 8 ? 0 : 0x7878787878787878L << (8 * n);
            long bytes = 0;
            String s = "debt 1; ";
            for (int i = 0; i < n; i++) {
                bytes |= (long) s.charAt(i) << (8 * i);
            }
            C.due("feed " + n, x.feed(n, bytes | garbage), n);
            Check.feedAll(x, s.substring(n) + "rent 2;wage 3;");
            C.due("as told by " + n, x.text(0), -1);
        }
        MeltingMarks y = new MeltingMarks();
        Check.feedAll(y, "debt 1;");
        C.due("a highest byte of 255", y.feed(8, 0xff20202020202020L), 15);
        C.due("is the fault", y.text(0), 14);
    }

    // FAULT: "the first byte of the first TOKEN that can't stand there"; "a byte that is none".
    private static void everyByteAsAValue() {
        for (int b = 0; b < 256; b++) {
            char c = (char) b;
            boolean digit = isDigit(c);
            fault("debt " + c + REST, digit ? -1 : c == '(' || c == ' ' ? 6 : 5);
            fault("debt 1+" + c + "  " + REST, digit ? -1 : c == '(' || c == ' ' ? 10 : 7);
        }
    }

    private static void everyByteBehindAValue() {
        for (int b = 0; b < 256; b++) {
            char c = (char) b;
            boolean joins = isDigit(c) || "+-*/<=".indexOf(c) >= 0;
            fault("debt 1" + c + "1" + REST, joins ? -1 : c == ';' || c == ' ' ? 7 : 6);
        }
    }

    private static void everyByteBehindAWord() {
        for (int b = 0; b < 256; b++) {
            char c = (char) b;
            boolean joins = "+-*/<=;".indexOf(c) >= 0;
            fault("debt sum" + c + REST, c == ' ' ? -1 : isLetter(c) ? 5 : joins ? 9 : 8);
            fault("debt" + c + "1" + REST, isLetter(c) ? 0 : isDigit(c) || c == ' ' ? -1 : c == '(' ? 6 : 4);
        }
    }

    private static void everyByteAsTheFirst() {
        for (int b = 0; b < 256; b++) {
            char c = (char) b;
            fault(c + "debt 1" + REST, c == ' ' ? -1 : 0);
            fault("debt 1" + REST + c, c == ' ' ? -1 : 21);
        }
    }

    // "of a WORD that is none of these": one letter less, more or another one.
    private static void wordsNextToWords() {
        for (String name : NAMES) {
            fault("debt " + name + REST, -1);
            for (int i = 0; i < name.length(); i++) {
                fault("debt " + name.substring(0, i) + "z" + name.substring(i + 1) + REST, 5);
                fault("debt " + name.substring(0, i) + name.substring(i + 1) + REST, 5);
                fault("debt " + name.substring(0, i) + "z" + name.substring(i) + REST, 5);
                fault("debt " + name.substring(0, i) + (char) (name.charAt(i) - 32) + name.substring(i + 1) + REST,
                    i == 0 ? 5 : isWord(name.substring(0, i)) ? 5 + i : 5);
            }
            fault("debt " + name + "z" + REST, 5);
            fault("debt " + name + name + REST, 5);
        }
        String[] keys = {"debt 1;rent 1;wage 1;", "rent", "wage"};
        for (String key : keys) {
            for (int i = 0; i < 4; i++) {
                String near = keys[0].replace(key.substring(0, 4), key.substring(0, i) + "z" + key.substring(i + 1, 4));
                fault(near, keys[0].indexOf(key.substring(0, 4)));
            }
        }
        String[] joints = {"nd", "an", "ands", "andy", "znd", "azd", "anz", "o", "r", "ors", "zr", "oz", "nor", "xor", "no", "nt"};
        for (String joint : joints) {
            fault("debt 1 " + joint + " 1" + REST, 7);
        }
        String[] nots = {"ot", "no", "nots", "zot", "nzt", "noz", "nott"};
        for (String not : nots) {
            fault("debt " + not + " 1" + REST, 5);
        }
    }

    private static boolean isWord(String s) {
        for (String name : NAMES) {
            if (name.equals(s)) {
                return true;
            }
        }
        return false;
    }

    // A VALUE is a NAME and no KEY; AND and OR stand behind one, and NOT doesn't.
    private static void namesAndKeys() {
        for (String key : KEYS) {
            fault("debt " + key + REST, key.equals("not") ? 8 : 5);
            fault("debt 1+" + key + REST, 7);
            fault("debt 1 " + key + " 1" + REST, key.equals("and") || key.equals("or") ? -1 : 7);
        }
        for (String name : NAMES) {
            fault("debt 1 " + name + REST, 7);
            fault(name + " 1" + REST, 0);
        }
        for (int i = 0; i < SIGNS.length(); i++) {
            fault("debt " + SIGNS.charAt(i) + " 1" + REST, SIGNS.charAt(i) == '(' ? 8 : 5);
        }
    }

    // "a NUMBER (digits, 6 at most)".
    private static void numbers() {
        String[] good = {"0", "00", "000000", "9", "99999", "999999", "000009", "100000"};
        for (String number : good) {
            value(number, Long.parseLong(number));
        }
        String[] tooLong = {"0000000", "1000000", "9999999", "00000000", "12345678901234567890123456789"};
        for (String number : tooLong) {
            fault("debt " + number + REST, 5);
            fault("debt 1+" + number + REST, 7);
            fault("debt (" + number + ")" + REST, 6);
        }
        fault("debt 999999" + REST, -1);
        fault("debt 999999 9" + REST, 12);
        fault("debt 999999+999999" + REST, -1);
    }

    // "TOKENS, each as long as can be".
    private static void tokensAsLongAsCanBe() {
        fault("debt12" + REST, -1);
        fault("debt12;rent34;wage56;", -1);
        fault("debtsum;rent 0;wage 0;", 0);
        fault("debt 1sum" + REST, 6);
        fault("debt 12sum" + REST, 7);
        fault("debt sum1" + REST, 8);
        fault("debt 1or 2" + REST, -1);
        fault("debt 1or2" + REST, -1);
        fault("debt not1" + REST, -1);
        fault("debt notsum" + REST, 5);
        fault("debt 1andsum" + REST, 6);
        fault("debt sumor 1" + REST, 5);
        fault("debt 1<=2" + REST, 7);
        fault("debt 1==2" + REST, 7);
        fault("debt 1<<2" + REST, 7);
        fault("debt 1 2" + REST, 7);
        fault("debt (sum)or(age)" + REST, -1);
        fault("debt su m" + REST, 5);
        fault("debt 1 ; rent 0 ; wage 0 ;", -1);
        fault(" debt(1+(2))*3<sum;rent(4);wage(5);", -1);
    }

    // "the text's length if it ends too early".
    private static void everyEnd() {
        String text = "debt not (sum+1) * 2 < price and 3 or kind; rent 44 ; wage (5) ;";
        for (int end = 0; end < text.length(); end++) {
            String part = text.substring(0, end);
            int word = end;
            while (word > 0 && isLetter(text.charAt(word - 1))) {
                word--;
            }
            boolean cut = word < end && isLetter(text.charAt(end));
            fault(part, cut ? word : end);
            if (!cut) {
                fault(part + "   ", end + 3);
            }
        }
        fault(text, -1);
        fault(text + "   ", -1);
    }

    private static boolean isLetter(char c) {
        return c >= 'a' && c <= 'z';
    }

    private static boolean isDigit(char c) {
        return c >= '0' && c <= '9';
    }

    // "a ( or not that lies in 4 others of these".
    private static void nesting() {
        String[] kinds = {"(", "not "};
        for (int way = 0; way < 32; way++) {
            StringBuilder open = new StringBuilder("debt ");
            StringBuilder close = new StringBuilder();
            int[] places = new int[5];
            for (int i = 0; i < 5; i++) {
                places[i] = open.length();
                open.append(kinds[way >> i & 1]);
                if ((way >> i & 1) == 0) {
                    close.append(')');
                }
            }
            fault(open + "1" + close + REST, places[4]);
            String four = open.substring(0, places[4]);
            String closing = (way >> 4 & 1) == 0 ? close.substring(1) : close.toString();
            fault(four + "1" + closing + REST, -1);
        }
    }

    private static void nestingEndsWithItsClause() {
        fault("debt ((((1))));rent ((((1))));wage ((((1))));", -1);
        fault("debt ((((1)))) + ((((1)))) * ((((1)))) < ((((1)))) or ((((1))))" + REST, -1);
        fault("debt not not not not 1 and not not not not 1 or not not not not 1" + REST, -1);
        fault("debt not not not not 1 + (1)" + REST, 25);
        fault("debt not not not not 1 < (1)" + REST, 25);
        fault("debt not not not not 1 and (1)" + REST, -1);
        fault("debt not not not (1) + (1)" + REST, -1);
        fault("debt not not not (1) + ((1))" + REST, 24);
        fault("debt (((((" + REST, 9);
        fault("debt ((((x" + REST, 9);
        fault("debt ((((-" + REST, 9);
        fault("debt 1;rent (((((1)))));wage 1;", 16);
        fault("debt 1;rent 1;wage not not not not not 1;", 35);
    }

    // "debt E ; rent E ; wage E ;"
    private static void clauses() {
        fault("debt 1;rent 1;wage 1;", -1);
        fault("debt 1;rent 1;wage 1", 20);
        fault("debt 1;rent 1;", 14);
        fault("debt 1;", 7);
        fault("debt 1;wage 1;rent 1;", 7);
        fault("rent 1;debt 1;wage 1;", 0);
        fault("wage 1;debt 1;rent 1;", 0);
        fault("debt ;rent 1;wage 1;", 5);
        fault("debt 1;;rent 1;wage 1;", 7);
        fault("debt 1;rent 1;wage 1;debt", 21);
        fault("debt 1;rent 1;wage 1;1", 21);
        fault("debt 1;rent 1;wage 1; ;", 22);
        fault("debt debt 1;rent 1;wage 1;", 5);
        fault("debt (1;rent 1;wage 1;", 7);
        fault("debt 1);rent 1;wage 1;", 6);
        fault("debt (1));rent 1;wage 1;", 8);
        fault("debt ();rent 1;wage 1;", 6);
    }

    // "AND { or AND }. .. NOT { and NOT }. .. SUM, perhaps < or = and a SUM. .. ONE { + or - ONE }. .. VALUE { * or / VALUE }."
    private static void ranks() {
        value("1 or 1 and 0", 1);
        value("0 and 1 or 1", 1);
        value("(1 or 1) and 0", 0);
        value("not 1 or 1", 1);
        value("not (1 or 1)", 0);
        value("not 0 and 0", 0);
        value("not 1=0", 1);
        value("(not 1)=0", 1);
        value("not 2<1+1", 1);
        value("1<2 and 2<3", 1);
        value("1<2 and 3<2", 0);
        value("1+1<3", 1);
        value("3<1+1", 0);
        value("1=2-1", 1);
        value("2*3=6", 1);
        value("10-2*3", 4);
        value("(10-2)*3", 24);
        value("10-4-3", 3);
        value("10-4+3", 9);
        value("10-(4+3)", 3);
        value("100/5/2", 10);
        value("100/5*2", 40);
        value("100/(5*2)", 10);
        value("7*3/2", 10);
        value("7/2*3", 9);
        value("1-1-1+2", 1);
        fault("debt 1<2<3" + REST, 8);
        fault("debt 1<2=1" + REST, 8);
        fault("debt 1=1<2" + REST, 8);
        fault("debt (1<2)<3" + REST, -1);
        fault("debt 1<(2<3)" + REST, -1);
        fault("debt 1+not 1" + REST, 7);
        fault("debt 1=not 1" + REST, 7);
    }

    // "of or, and, not, <, =: 1 or 0 (what is not 0 is true)".
    private static void oneOrNothing() {
        String[] two = {"7", "(0-7)", "0"};
        for (int a = 0; a < 3; a++) {
            for (int b = 0; b < 3; b++) {
                boolean ta = a < 2;
                boolean tb = b < 2;
                long[] v = {7, -7, 0};
                value("(" + two[a] + " or " + two[b] + ")+5", ta || tb ? 6 : 5);
                value("(" + two[a] + " and " + two[b] + ")+5", ta && tb ? 6 : 5);
                value("(" + two[a] + " < " + two[b] + ")+5", v[a] < v[b] ? 6 : 5);
                value("(" + two[a] + " = " + two[b] + ")+5", a == b ? 6 : 5);
            }
            value("(not " + two[a] + ")+5", a < 2 ? 5 : 6);
            value("(not not " + two[a] + ")+5", a < 2 ? 6 : 5);
        }
        value("(2<3)+5", 6);
        value("(3<3)+5", 5);
        value("(4<3)+5", 5);
        value("(3=3)+5", 6);
        value("(2=3)+5", 5);
    }

    // "sums, differences and products of TEXTS are longs that wrap".
    private static void wraps() {
        String half = "65536*65536*65536*16384";
        String least = "65536*65536*65536*32768";
        value(half + "+" + half + "<0", 1);
        value(half + "-1+" + half + "<0", 0);
        value(half + "-1+" + half, MOST);
        value(least + "<0", 1);
        value(least + "-1<0", 0);
        value(least + "-1", MOST);
        value("0-" + least + "<0", 1);
        value(least + "+" + least, 0);
        value("65536*65536*65536*65536", 0);
        value("65536*65536*65536*65536+77", 77);
        value("65536*65536*65536*65537", 281474976710656L);
        value("(" + least + "-1)*2+2", 0);
        value("(" + least + "-1)*2+9", 7);
        value("(" + least + "+1)*2", 2);
        value("(65536*65536+1)*(65536*65536+1)", 8589934593L);
        value("(0-65536*65536-1)*(65536*65536+1)+65536*65536*2+7", 6);
        value(least + "/(0-1)<0", 1);
        value("sum*65536*65536*65536*65536+sum", 50);
    }

    // "Quotients are cut"; "what is divided by 0: 0".
    private static void quotients() {
        value("7/2", 3);
        value("6/2", 3);
        value("1/2", 0);
        value("(0-7)/2+10", 7);
        value("7/(0-2)+10", 7);
        value("(0-7)/(0-2)+10", 13);
        value("(0-1)/2+10", 10);
        value("7/0+10", 10);
        value("(0-7)/0+10", 10);
        value("0/0+10", 10);
        value("7/(3-3)*5+10", 10);
        value("0/7+10", 10);
        value("sum/age+10", 10);
    }

    // "TEXTS 0 to 4".
    private static void fiveTexts() {
        MeltingMarks x = persons();
        x.paper(1, 1, 50, 300);
        for (int t = 0; t < 5; t++) {
            C.due("text " + t, Check.tell(x, t, "debt " + (t + 10) + REST), -1);
        }
        for (int t = 4; t >= 0; t--) {
            C.due("law", x.force(t, t % 2, 0), 4 - t);
            C.due("owed by text " + t, x.owed(0, t % 2), t + 10);
        }
        C.due("text 4 anew", Check.tell(x, 4, "debt 99" + REST), -1);
        C.due("law", x.force(4, 0, 0), 5);
        C.due("owed by text 4", x.owed(0, 0), 99);
        C.due("law", x.force(3, 0, 0), 6);
        C.due("text 3 stays", x.owed(0, 0), 13);
        MeltingMarks y = persons();
        for (int kind = 1; kind < 5; kind++) {
            y.paper(kind, 1, 50, 300);
        }
        String[] longer = {"debt 1;rent 1;wage not 1;", "debt 1+1+1+1;rent 5*(6-3);wage not not not 8 and not 9;",
            "debt not 7;rent not 7;wage not 7+1 or 0;"};
        for (String text : longer) {
            Check.tell(y, 0, text);
            Check.tell(y, 0, "debt 1;rent 2;wage 3;");
            y.force(0, 0, 0);
            C.due("nothing of a longer one stays: debt", y.owed(0, 0), 1);
            C.due("nothing of a longer one stays: rent", y.owed(2, 0), 2);
            C.due("nothing of a longer one stays: wage", y.owed(3, 0), 3);
        }
    }

    // Promise 15: "(as it is then)"; promise 14: "with a FAULT .. TEXT t stays", THE TAPE "is empty then".
    private static void textAsItIsThen() {
        MeltingMarks x = persons();
        x.paper(1, 1, 50, 300);
        Check.tell(x, 0, "debt 11" + REST);
        x.force(0, 0, 0);
        Check.tell(x, 0, "debt 12" + REST);
        C.due("the law stays", x.owed(0, 0), 11);
        C.due("a fault", Check.tell(x, 0, "debt 13;rent"), 12);
        C.due("the tape is empty", x.feed(1, 'd'), 1);
        C.due("a fault", x.text(0), 0);
        C.due("the tape is empty", x.feed(1, 'd'), 1);
        C.due("beyond", x.text(5), Check.BEYOND);
        C.due("the tape stays", x.feed(3, 'e' | 'b' << 8 | 't' << 16), 4);
        Check.feedAll(x, " 14" + REST);
        C.due("and goes on", x.text(1), -1);
        C.due("the tape is empty", x.feed(1, ' '), 1);
        x.force(0, 0, 0);
        C.due("the text before the faults", x.owed(0, 0), 12);
        x.force(1, 0, 0);
        C.due("the text that went on", x.owed(0, 0), 14);
    }

    // "THE LAW of a COURT on a DAY: the TEXT of the latest LAW .. made for it that is in force from that DAY or an earlier one".
    private static void lawDays() {
        MeltingMarks x = persons();
        x.paper(1, 1, 50, 300);
        for (int t = 0; t < 4; t++) {
            Check.tell(x, t, "debt " + (t + 1) + REST);
        }
        x.force(0, 0, 4);
        x.force(1, 0, 2);
        x.force(2, 0, 300);
        x.force(3, 1, 3);
        long[] law = {Check.NONE, Check.NONE, 1, 1, 1, 1};
        long[] other = {Check.NONE, Check.NONE, Check.NONE, 3, 3, 3};
        for (int day = 0; day < 6; day++) {
            C.due("law(0, " + day + ")", x.law(0, day), law[day]);
            C.due("law(1, " + day + ")", x.law(1, day), other[day]);
            C.due("owed on " + day, x.owed(0, 0), day < 2 ? 50 : 2);
            C.due("owed by court 1 on " + day, x.owed(0, 1), day < 3 ? 50 : 4);
            C.due("unlike on " + day, x.unlike(), day < 2 ? Check.NONE : 0);
            x.days(1);
        }
        C.due("law(0, 299)", x.law(0, 299), 1);
        C.due("law(0, 300)", x.law(0, 300), 2);
        C.due("a fifth", x.force(0, 0, 0), 4);
        C.due("the latest made", x.law(0, 300), 4);
        C.due("the latest made", x.law(0, 0), 4);
        C.due("owed", x.owed(0, 0), 1);
    }

    // OWED: "0 if below, MOST if above; without a LAW SUM"; of PAPER and TOWN "its SUM".
    private static void owedBounds() {
        String most = "1000*1000*1000*1000*1000";
        value("0-1", 0);
        value("0", 0);
        value("1", 1);
        value(most + "-1", MOST - 1);
        value(most, MOST);
        value(most + "+1", MOST);
        MeltingMarks x = persons();
        for (int kind = 0; kind < 6; kind++) {
            x.paper(kind, 1, MOST, 300);
        }
        for (int kind = 0; kind < 6; kind++) {
            C.due("without a law of " + kind, x.owed(kind, 0), MOST);
        }
        Check.tell(x, 0, "debt 3;rent 0-1;wage sum+1;");
        x.force(0, 0, 0);
        long[] want = {MOST, 3, MOST, 0, MOST, MOST};
        for (int kind = 0; kind < 6; kind++) {
            C.due("by a law of " + kind, x.owed(kind, 0), want[kind]);
            C.due("by the other court of " + kind, x.owed(kind, 1), MOST);
        }
    }

    // "of GOLD SUM times PRICE of that DAY (MOST, if that is above it)".
    private static void gold() {
        MeltingMarks x = Check.ofPrices(10);
        for (int over = -1; over <= 1; over++) {
            x.paper(2, 1, MOST / 10 + over, 300);
        }
        x.paper(2, 1, 7, 300);
        x.paper(2, 1, MOST, 300);
        C.due("below most", x.owed(0, 0), MOST - 10);
        C.due("most", x.owed(1, 0), MOST);
        C.due("above most", x.owed(2, 0), MOST);
        C.due("far above most", x.owed(4, 1), MOST);
        C.due("by price", x.owed(3, 1), 70);
        Check.goOn(x, 20);
        C.due("of that day", x.owed(3, 0), 140);
        Check.tell(x, 0, "debt 1;rent 2;wage 3;");
        x.force(0, 0, 0);
        C.due("by no law", x.owed(3, 0), 140);
    }

    // "late: that of three DAYS ahead (of DAY 0, if there are not so many); week: that of the latest DAY .. that is a multiple of 7".
    private static void lateAndWeek() {
        MeltingMarks x = Check.ofPrices();
        Check.tell(x, 0, "debt late;rent 0;wage 0;");
        Check.tell(x, 1, "debt week;rent 0;wage 0;");
        Check.tell(x, 2, "debt first*100+age;rent 0;wage 0;");
        x.force(0, 0, 0);
        x.force(1, 1, 0);
        long price = 1;
        long[] told = new long[23];
        for (int day = 0; day < 23; day++) {
            told[day] = x.price(day);
            C.due("a paper of each day", x.paper(1, 1, 50, 300), day);
            // What was ahead of since counts, too.
            for (int paper : new int[] {0, day / 2, day}) {
                C.due("late on " + day, x.owed(paper, 0), told[day < 3 ? 0 : day - 3]);
                C.due("week on " + day, x.owed(paper, 1), told[day - day % 7]);
            }
            price += day + 1;
            Check.goOn(x, price);
        }
        x.force(2, 0, 0);
        for (int since = 0; since < 23; since++) {
            C.due("first and age of " + since, x.owed(since, 0), told[since] * 100 + 23 - since);
        }
    }

    // Promise 17: "the least OPEN PAPER of which they say unlike OWED on THE DAY".
    private static void unlike() {
        MeltingMarks x = persons();
        for (int i = 0; i < 4; i++) {
            x.paper(1, 1, 50 + i, 300);
        }
        Check.tell(x, 0, "debt sum+(sum<53);rent 0;wage 0;");
        x.force(0, 1, 1);
        C.due("not in force yet", x.unlike(), Check.NONE);
        x.days(1);
        C.due("paper 0", x.unlike(), 0);
        x.tear(0);
        C.due("paper 1", x.unlike(), 1);
        x.press(200);
        x.give(0, 200);
        x.pay(1);
        C.due("paper 2", x.unlike(), 2);
        x.tear(2);
        C.due("paper 3 is alike", x.unlike(), Check.NONE);
    }
}
