/** Promises 13 to 17. */
public final class TextsLawsTest {
    private static final Check C = new Check("TextsLawsTest");
    private static final String REST = ";rent 0;wage 0;";

    public static void main(String[] args) {
        feed();
        textAndTape();
        faultsOfClauses();
        faultsOfTokens();
        faultsOfNesting();
        faultsOfExpressions();
        values();
        names();
        lateAndWeek();
        force();
        law();
        unlike();
        C.end();
    }

    private static void feed() {
        MeltingMarks x = new MeltingMarks();
        C.due("feed 0", x.feed(0, 0), Check.BEYOND);
        C.due("feed 9", x.feed(9, 0), Check.BEYOND);
        C.due("feed -1", x.feed(-1, 0), Check.BEYOND);
        C.due("feed 1", x.feed(1, 'd' | 'x' << 8), 1);
        C.due("feed 3, the lowest first", x.feed(3, 'e' | 'b' << 8 | 't' << 16), 4);
        C.due("as it was fed", Check.feedAll(x, " 7;rent 8;wage 9;"), 21);
        C.due("text", x.text(0), -1);
        for (int i = 1; i <= 19; i++) {
            C.due("feed 8", x.feed(8, 0x2020202020202020L), 8 * i);
        }
        C.due("feed 7", x.feed(7, 0x2020202020202020L), 159);
        C.due("feed full", x.feed(2, 0), Check.FULL);
        C.due("beyond ahead of full", x.feed(9, 0), Check.BEYOND);
        C.due("feed to the last", x.feed(1, ' '), 160);
        C.due("feed full", x.feed(1, 0), Check.FULL);
        C.due("160 blanks", x.text(0), 160);
        C.due("empty then", x.feed(1, 0), 1);
        C.due("a byte of 0", x.text(0), 0);
        C.due("findings", x.count(9), 6);
    }

    private static void textAndTape() {
        MeltingMarks x = ruled("debt 1;rent 2;wage 3;");
        C.due("owed", x.owed(0, 0), 1);
        C.due("feed", Check.feedAll(x, "debt 4;rent 5;wage 6;"), 21);
        C.due("text(5)", x.text(5), Check.BEYOND);
        C.due("text(-1)", x.text(-1), Check.BEYOND);
        C.due("the tape stays", x.text(4), -1);
        C.due("the law of text 0 stays", x.owed(0, 0), 1);
        C.due("a fault", Check.tell(x, 4, "debt 7;rent 8;wage 9"), 20);
        C.due("empty behind a fault", x.text(4), 0);
        C.due("force", x.force(4, 0, 0), 1);
        C.due("the text stayed", x.owed(0, 0), 4);
        C.due("its rent", x.owed(1, 0), 5);
        C.due("its wage", x.owed(2, 0), 6);
        C.due("a fault is no finding", x.count(9), 2);
        C.due("letters", Check.tell(x, 0, "zzzzzzzzzz"), 0);
        C.due("not read behind the end", Check.tell(x, 0, "debt"), 4);
        C.due("digits", Check.tell(x, 0, "9999999999"), 0);
        C.due("not read behind the end", Check.tell(x, 0, "debt 1"), 6);
        C.due("blanks", Check.tell(x, 0, "          "), 10);
        C.due("not read behind the end", Check.tell(x, 0, "debt 1"), 6);
    }

    private static void faultsOfClauses() {
        fault("", 0);
        fault("   ", 3);
        fault("debt", 4);
        fault("debt ", 5);
        fault("debt 1", 6);
        fault("debt 1;", 7);
        fault("debt 1;rent 1;wage 1", 20);
        fault("debt 1;rent 1;wage 1  ", 22);
        fault("debt 1;rent 1;wage 1;", -1);
        fault("  debt 1 ; rent 1 ; wage 1 ;  ", -1);
        fault("debt 1;rent 1;wage 1;;", 21);
        fault("debt 1;rent 1;wage 1; 1", 22);
        fault("debt 1;rent 1;wage 1;debt 1;rent 1;wage 1;", 21);
        fault("rent 1;debt 1;wage 1;", 0);
        fault("debt 1;wage 1;rent 1;", 7);
        fault("debt 1;debt 1;wage 1;", 7);
        fault("debt 1 rent 1;wage 1;", 7);
        fault("debt;rent 1;wage 1;", 4);
        fault("1", 0);
    }

    private static void faultsOfTokens() {
        fault("debts 1" + REST, 0);
        fault("debtsum" + REST, 0);
        fault("deb t1" + REST, 0);
        fault("debt1" + REST, -1);
        fault("debt sums" + REST, 5);
        fault("debt sumz" + REST, 5);
        fault("debt asum" + REST, 5);
        fault("debt sumsum" + REST, 5);
        fault("debt notnot" + REST, 5);
        fault("debt su" + REST, 5);
        fault("debt s" + REST, 5);
        fault("debt firstly" + REST, 5);
        fault("debt abcdefghijk" + REST, 5);
        fault("debt Sum" + REST, 5);
        fault("debt sUm" + REST, 5);
        fault("debt 123456" + REST, -1);
        fault("debt 1234567" + REST, 5);
        fault("debt 0000001" + REST, 5);
        fault("debt 99999999999999999999999999" + REST, 5);
        fault("debt 1+  1234567" + REST, 9);
        fault("debt 1234567 $", 5);
        fault("debt 1 $ 1234567", 7);
        fault("debt\t1" + REST, 4);
        fault("debt 1\n" + REST, 6);
        fault("debt " + (char) 0 + REST, 5);
        fault("debt " + (char) 200 + REST, 5);
        fault("debt " + (char) 225 + REST, 5);
        fault("debt 1 " + (char) 160 + REST, 7);
        fault("debt `" + REST, 5);
        fault("debt {" + REST, 5);
        fault("debt 1:" + REST, 6);
        fault("debt 1>2" + REST, 6);
        fault("debt 1,2" + REST, 6);
        fault("debt 1or2and3" + REST, -1);
        fault("debt 1or 2sum" + REST, 10);
        fault("debt 1 2" + REST, 7);
        fault("debt sum age" + REST, 9);
        fault("debt(sum)" + REST, -1);
    }

    private static void faultsOfNesting() {
        fault("debt not not not not 1" + REST, -1);
        fault("debt not not not not not 1" + REST, 21);
        fault("debt ((((1))))" + REST, -1);
        fault("debt (((((1)))))" + REST, 9);
        fault("debt not(not(1))" + REST, -1);
        fault("debt not(not((1)))" + REST, 13);
        fault("debt not(not(not 1))" + REST, 13);
        fault("debt not 1<(((1)))" + REST, -1);
        fault("debt not 1<((((1))))" + REST, 14);
        fault("debt not 1 and ((((1))))" + REST, -1);
        fault("debt not 1 or not not not not 1" + REST, -1);
        fault("debt ((((1))))+((((1))))*((((1))))" + REST, -1);
        fault("debt ((((1)+(1))))" + REST, -1);
        fault("debt ((((1))+(((1)))))" + REST, 15);
        fault("debt ((((not 1))))" + REST, 9);
        fault("debt (((not 1)))" + REST, -1);
        fault("debt (((not 1 and (not 1))))" + REST, 19);
    }

    private static void faultsOfExpressions() {
        fault("debt 1<2" + REST, -1);
        fault("debt 1<2<3" + REST, 8);
        fault("debt 1<2=3" + REST, 8);
        fault("debt 1=(2=3)" + REST, -1);
        fault("debt 1=2 and 3<4 or 5=6" + REST, -1);
        fault("debt 1+not 1" + REST, 7);
        fault("debt 1<not 1" + REST, 7);
        fault("debt 1*not 1" + REST, 7);
        fault("debt 1 not 1" + REST, 7);
        fault("debt 1+(not 1)" + REST, -1);
        fault("debt not" + REST, 8);
        fault("debt -1" + REST, 5);
        fault("debt +1" + REST, 5);
        fault("debt 1+-1" + REST, 7);
        fault("debt 1--1" + REST, 7);
        fault("debt 1+" + REST, 7);
        fault("debt 1 or" + REST, 9);
        fault("debt 1 or or 1" + REST, 10);
        fault("debt and" + REST, 5);
        fault("debt debt" + REST, 5);
        fault("debt wage" + REST, 5);
        fault("debt (1" + REST, 7);
        fault("debt 1)" + REST, 6);
        fault("debt ()" + REST, 6);
        fault("debt (1))" + REST, 8);
        fault("debt (1;)" + REST, 7);
        fault("debt (1)(2)" + REST, 8);
        fault("debt (1) 2" + REST, 9);
        fault("debt 1 (2)" + REST, 7);
        fault("debt sum(1)" + REST, 8);
        fault("debt 1;rent 1 +;wage 1;", 15);
        fault("debt 1;rent 1;wage (1", 21);
        fault("debt 1;rent 1;wage not ", 23);
    }

    private static void values() {
        value("0", 0);
        value("999999", 999999);
        value("007", 7);
        value("2+3*4", 14);
        value("(2+3)*4", 20);
        value("20-3-4", 13);
        value("20-(3-4)", 21);
        value("100/7/2", 7);
        value("100/(7/2)", 33);
        value("7/2*2", 6);
        value("2*7/2", 7);
        value("5/0", 0);
        value("3+5/0", 3);
        value("3-5", 0);
        value("(0-7)/2+10", 7);
        value("(0-7)/(0-2)", 3);
        value("1<2", 1);
        value("2<2", 0);
        value("3<2", 0);
        value("2=2", 1);
        value("2=3", 0);
        value("1+1=2", 1);
        value("1<2+2", 1);
        value("(1<2)+(2<3)+4", 6);
        value("not 0", 1);
        value("not 5", 0);
        value("not not 5", 1);
        value("not not not 5", 0);
        value("not 1=2", 1);
        value("not 0 and 0", 0);
        value("not (0 and 0)", 1);
        value("5 or 0", 1);
        value("0 or 0", 0);
        value("0 or (0-3)", 1);
        value("5 and 7", 1);
        value("5 and 0", 0);
        value("0 and 7", 0);
        value("1 or 0 and 0", 1);
        value("(1 or 0) and 0", 0);
        value("0 and 0 or 1", 1);
        value("0 or 0 or 3", 1);
        value("2 and 2 and 2", 1);
        value("999999*999999", 999998000001L);
        value("999999*999999*999999", Check.MOST);
        value("999999*1000+1000", 1000000000L);
        value("1000*1000*1000*1000*1000", Check.MOST);
        value("1000*1000*1000*1000*1000-1", Check.MOST - 1);
        value("1000*1000*1000*1000*1000+1", Check.MOST);
        // 2 to the power of 63 wraps to the least long; less 1 it is the greatest.
        value("65536*65536*65536*32768", 0);
        value("65536*65536*65536*32768-1", Check.MOST);
        value("65536*65536*65536*65536+9", 9);
        value("65536*65536*65536*32768/(0-1)", 0);
        value("65536*65536*65536*32768-1-65536*65536*65536*16384<0", 0);
        value("0-65536*65536*65536*32768=65536*65536*65536*32768", 1);
    }

    private static void names() {
        MeltingMarks x = Check.ofPrices(2, 3);
        x.paper(1, 1, 50, 300);
        x.paper(3, 1, 60, 300);
        x.paper(4, 1, 70, 300);
        Check.goOn(x, 5, 7, 11, 13, 17, 19);
        C.due("day", x.count(3), 8);
        // DAY 8, since 2; prices of the days 2, 5, 7, 8: 3, 11, 17, 19.
        named(x, "sum", 50, 60, 70);
        named(x, "age", 6, 6, 6);
        named(x, "price", 19, 19, 19);
        named(x, "first", 3, 3, 3);
        named(x, "late", 11, 11, 11);
        named(x, "week", 17, 17, 17);
        named(x, "kind", 1, 3, 4);
        named(x, "sum*price/first", 316, 380, 443);
        named(x, "sum-age*kind", 44, 42, 46);
    }

    private static void lateAndWeek() {
        MeltingMarks x = new MeltingMarks();
        x.person(0, 1, 1);
        x.person(0, 0, 0);
        x.habit(0, 0, 10);
        x.habit(1, 0, 0);
        x.paper(1, 1, 50, 300);
        Check.tell(x, 0, "debt late;rent 0;wage 0;");
        Check.tell(x, 1, "debt week*1000+first*100+age;rent 0;wage 0;");
        x.force(0, 0, 0);
        x.force(1, 1, 0);
        long[] price = {1, 2, 3, 5, 7, 11, 13, 17, 19, 23, 29, 31, 37, 41, 43, 47};
        for (int day = 0; day < price.length; day++) {
            if (day > 0) {
                Check.goOn(x, price[day]);
            }
            C.due("price", x.price(day), price[day]);
            C.due("late on " + day, x.owed(0, 0), price[Math.max(0, day - 3)]);
            C.due("week on " + day, x.owed(0, 1), price[day / 7 * 7] * 1000 + 100 + day);
        }
    }

    private static void force() {
        MeltingMarks x = new MeltingMarks();
        C.due("force(5)", x.force(5, 0, 0), Check.BEYOND);
        C.due("force(-1)", x.force(-1, 0, 0), Check.BEYOND);
        C.due("court 2", x.force(0, 2, 0), Check.BEYOND);
        C.due("court -1", x.force(0, -1, 0), Check.BEYOND);
        C.due("day 301", x.force(0, 0, 301), Check.BEYOND);
        C.due("day -1", x.force(0, 0, -1), Check.BEYOND);
        C.due("never told", x.force(0, 0, 0), Check.NONE);
        C.due("a fault tells nothing", Check.tell(x, 0, "debt"), 4);
        C.due("never told", x.force(0, 0, 0), Check.NONE);
        C.due("told", Check.tell(x, 0, "debt 1;rent 1;wage 1;"), -1);
        C.due("another one", x.force(1, 0, 0), Check.NONE);
        for (int i = 0; i < 12; i++) {
            C.due("force", x.force(0, i % 2, i * 27), i);
        }
        C.due("full", x.force(0, 0, 0), Check.FULL);
        C.due("none ahead of full", x.force(1, 0, 0), Check.NONE);
        C.due("beyond ahead of none", x.force(1, 0, 301), Check.BEYOND);
        C.due("the last one", x.law(1, 297), 11);
        C.due("the first one", x.law(0, 0), 0);
    }

    private static void law() {
        MeltingMarks x = new MeltingMarks();
        x.person(0, 0, 0);
        x.person(0, 0, 0);
        x.paper(1, 1, 50, 300);
        Check.tell(x, 0, "debt 1;rent 1;wage 1;");
        x.force(0, 0, 5);
        Check.tell(x, 0, "debt 2;rent 2;wage 2;");
        x.force(0, 0, 3);
        x.force(0, 1, 300);
        x.force(0, 0, 10);
        C.due("ahead of all", x.law(0, 2), Check.NONE);
        C.due("law on 3", x.law(0, 3), 1);
        C.due("the latest made, not the latest day", x.law(0, 5), 1);
        C.due("law on 9", x.law(0, 9), 1);
        C.due("law on 10", x.law(0, 10), 3);
        C.due("law on 300", x.law(0, 300), 3);
        C.due("court 1 on 299", x.law(1, 299), Check.NONE);
        C.due("court 1 on 300", x.law(1, 300), 2);
        C.due("court 2", x.law(2, 0), Check.BEYOND);
        C.due("court -1", x.law(-1, 0), Check.BEYOND);
        C.due("day 301", x.law(0, 301), Check.BEYOND);
        C.due("day -1", x.law(0, -1), Check.BEYOND);
        C.due("no law yet", x.owed(0, 0), 50);
        x.days(3);
        C.due("in force", x.owed(0, 0), 2);
        Check.tell(x, 0, "debt 9;rent 9;wage 9;");
        C.due("as the text was then", x.owed(0, 0), 2);
        C.due("the other court", x.owed(0, 1), 50);
    }

    private static void unlike() {
        MeltingMarks x = new MeltingMarks();
        x.person(1000, 0, 0);
        x.person(1000, 0, 0);
        for (int kind = 0; kind < 6; kind++) {
            x.paper(kind, 1, 50, 300);
        }
        C.due("no laws", x.unlike(), Check.NONE);
        Check.tell(x, 0, "debt sum;rent sum;wage sum+1;");
        x.force(0, 1, 0);
        C.due("wage", x.unlike(), 4);
        Check.tell(x, 0, "debt sum;rent 1;wage sum+1;");
        x.force(0, 1, 0);
        C.due("rent", x.unlike(), 3);
        Check.tell(x, 0, "debt sum-1;rent 1;wage sum+1;");
        x.force(0, 1, 0);
        C.due("debt", x.unlike(), 1);
        x.tear(1);
        C.due("void ones don't count", x.unlike(), 3);
        x.force(0, 0, 0);
        C.due("one law for both", x.unlike(), Check.NONE);
        C.due("findings", x.count(9), 2);
    }

    /** Papers 0 (DEBT), 1 (RENT), 2 (WAGE) of 50, and a law of court 0. */
    private static MeltingMarks ruled(String text) {
        MeltingMarks x = new MeltingMarks();
        x.person(0, 0, 0);
        x.person(0, 0, 0);
        x.paper(1, 1, 50, 300);
        x.paper(3, 1, 50, 300);
        x.paper(4, 1, 50, 300);
        C.due("text " + text, Check.tell(x, 0, text), -1);
        C.due("force", x.force(0, 0, 0), 0);
        return x;
    }

    private static void fault(String text, long want) {
        C.due("text '" + text + "'", Check.tell(new MeltingMarks(), 0, text), want);
    }

    private static void value(String expression, long want) {
        C.due("debt " + expression, ruled("debt " + expression + REST).owed(0, 0), want);
        C.due("rent " + expression, ruled("debt 1;rent " + expression + ";wage 2;").owed(1, 0), want);
        C.due("wage " + expression, ruled("debt 1;rent 2;wage " + expression + ";").owed(2, 0), want);
    }

    private static void named(MeltingMarks x, String expression, long debt, long rent, long wage) {
        x.image();
        Check.tell(x, 2, "debt " + expression + ";rent " + expression + ";wage " + expression + ";");
        x.force(2, 1, 0);
        C.due("debt " + expression, x.owed(0, 1), debt);
        C.due("rent " + expression, x.owed(1, 1), rent);
        C.due("wage " + expression, x.owed(2, 1), wage);
        x.restore();
    }
}
