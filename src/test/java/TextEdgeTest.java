/**
 * The document's sentences on TEXTS that name a boundary case (KERB, RULE, FAULT; promises 1 to 5), in its order, each
 * with a test of its own.
 */
public final class TextEdgeTest {
    private static final int LEAST = Integer.MIN_VALUE;
    private static final int MOST = Integer.MAX_VALUE;
    private static final String ORDERLY = "kl10;sl3;ga4";

    public static void main(String[] args) {
        kerbClauses();
        kerbItems();
        kerbNumbers();
        kerbUsual();
        ruleTexts();
        ruleGrammar();
        ruleDepth();
        ruleNumbers();
        ruleWorth();
        blanks();
        faults();
        faultsOfNumbers();
        gatesTwice();
        newObject();
        feed();
        end();
        fault();
        text();
        textForgets();
        Check.finish();
    }

    private static void kerbFault(String text, int want) {
        Check.due("fault(0) of <" + text + ">", Check.fault(new KerbSide(), 0, text), want);
    }

    private static void ruleFault(String text, int want) {
        Check.due("fault(1) of <" + text + ">", Check.fault(new KerbSide(), 1, text), want);
    }

    private static void sorts(String text, int want) {
        Check.due("text(0) of <" + text + ">", Check.text(new KerbSide(), 0, text), want);
    }

    /** A RULE by whose WORTH the PLACE told is chosen; the PLACES are 0, 1, 5, 6, 7. */
    private static void chosen(String rule, int place) {
        KerbSide x = Check.kerb(ORDERLY);
        Check.due("text(1) of <" + rule + ">", Check.text(x, 1, rule), 0);
        x.rule(0);
        Check.due("where by <" + rule + ">", x.where(0, 2), place);
    }

    /** A SUM that has a value: the condition leads to the last PLACE, another one to the first. */
    private static void sum(String sum, String value) {
        chosen("y:" + sum + "=" + value + "?p", 7);
    }

    private static void kerbClauses() {
        Check.says("CLAUSES with ; between");
        sorts("s;s", 2);
        kerbFault("s s", 2);
        kerbFault("s,s", 1);
        kerbFault(";s", 0);
        kerbFault("s;", 2);
        kerbFault("s;;s", 2);
        Check.says("k (the KERB itself; one at most)");
        sorts("s", 1);
        sorts("k;s", 1);
        kerbFault("k;k;s", 2);
        kerbFault("k;s;k", 4);
        Check.says("s (a SORT of cars; 1 .. 4)");
        kerbFault("k;g", 3);
        sorts("s", 1);
        sorts("s;s;s;s", 4);
        kerbFault("s;s;s;s;s", 8);
        Check.says("g (a GATE; none to 4)");
        Check.due("no GATE", Check.kerb("s").gaps(2), 12);
        Check.due("four GATES", Check.kerb("s;ga0;ga2;ga4;ga6").gaps(2), 8);
        kerbFault("s;ga0;ga2;ga4;ga6;ga8", 18);
        Check.says("in any order");
        for (String text : new String[] {"kl5;s;ga1", "kl5;ga1;s", "s;kl5;ga1", "s;ga1;kl5", "ga1;kl5;s", "ga1;s;kl5"}) {
            KerbSide x = Check.kerb(text);
            Check.due("YARDS of " + text, x.count(0), 5);
            Check.due("GATE of " + text, Check.yard(x, 1, 0), 1);
            Check.due("longest GAP of " + text, x.gaps(0), 3);
        }
    }

    private static void kerbItems() {
        Check.says("then ITEMS, none or more");
        sorts("k;s;g", 1);
        sorts("ko1q2l3;sw4l5;gl6a7", 1);
        kerbFault("l5k;s", 0);
        Check.says("a letter, each once at most in a CLAUSE");
        kerbFault("kl5q1l5;s", 5);
        kerbFault("kl5l", 3);
        kerbFault("sl3w1w1", 5);
        kerbFault("s;ga1l1a1", 7);
        sorts("sl3;sl3;kl5;gl1;gl1", 2);
        Check.says("of k: l, q, o; of s: l, w; of g: a, l");
        for (char letter = 'a'; letter <= 'z'; letter++) {
            int known = letter == 'l' ? -1 : 1;
            kerbFault("k" + letter + "2;s", letter == 'q' || letter == 'o' ? -1 : known);
            kerbFault("s" + letter + "2", letter == 'w' ? -1 : known);
            kerbFault("g" + letter + "2;s", letter == 'a' ? -1 : known);
        }
        Check.says("and a number (one or two digits)");
        kerbFault("sl", 2);
        kerbFault("slw", 2);
        kerbFault("sl;s", 2);
        kerbFault("sl3", -1);
        kerbFault("sl03", -1);
        kerbFault("sl003", 4);
        kerbFault("sl-3", 2);
    }

    private static void bounds(String ahead, int least, int most) {
        int at = ahead.length();
        String tail = ahead.startsWith("s") ? ";k" : ";s";
        for (int value = 0; value <= 99; value++) {
            boolean good = value >= least && value <= most;
            kerbFault(ahead + value + tail, good ? -1 : at + (value < 10 ? 0 : 1));
            if (value < 10) {
                kerbFault(ahead + "0" + value + tail, good ? -1 : at + 1);
            }
        }
        kerbFault(ahead + "100" + tail, at + 2);
        KerbSide x = new KerbSide();
        Check.due("the least of " + ahead, Check.text(x, 0, ahead + least + tail), 1);
        Check.due("the most of " + ahead, Check.text(x, 0, ahead + most + tail), 1);
    }

    private static void kerbNumbers() {
        Check.says("l YARDS (2 .. 20");
        bounds("kl", 2, 20);
        Check.due("two", Check.kerb("kl2;s").count(0), 2);
        Check.due("twenty", Check.kerb("kl20;s").count(0), 20);
        Check.says("q how many of 100 OBEY (0 .. 99");
        bounds("kq", 0, 99);
        Check.due("none", Check.kerb("kq0;s").count(5), 0);
        Check.due("99", Check.kerb("kq99;s").count(5), 99);
        Check.says("o how many of 100 steps somebody leaves (0 .. 99");
        bounds("ko", 0, 99);
        Check.due("none", Check.kerb("ko0;s").count(6), 0);
        Check.due("99", Check.kerb("ko99;s").count(6), 99);
        Check.says("of s: l LENGTH (1 .. 9");
        bounds("sl", 1, 9);
        Check.due("one", Check.kerb("sl1").sort(0, 0), 1);
        Check.due("nine", Check.kerb("sl9").sort(0, 0), 9);
        Check.says("w WEIGHT (1 .. 9");
        bounds("sw", 1, 9);
        Check.due("one", Check.kerb("sw1").sort(0, 1), 1);
        Check.due("nine", Check.kerb("sw9").sort(0, 1), 9);
        Check.says("of g: a from which YARD (0 .. 19");
        bounds("ga", 0, 19);
        Check.due("the first", Check.yard(Check.kerb("kl20;s;ga0"), 0, 0), 1);
        Check.due("the last", Check.yard(Check.kerb("kl20;s;ga19"), 19, 0), 1);
        Check.says("l how long (1 .. 9");
        bounds("gl", 1, 9);
        Check.due("one", Check.kerb("kl20;s;gl1").gaps(2), 19);
        Check.due("nine", Check.kerb("kl20;s;gl9").gaps(2), 11);
    }

    private static void kerbUsual() {
        Check.says("12 without");
        Check.due("YARDS", Check.kerb("kq1;s").count(0), 12);
        Check.due("YARDS without k", Check.kerb("s").count(0), 12);
        Check.says("(0 .. 99; 0)");
        Check.due("OBEY", Check.kerb("kl9;s").count(5), 0);
        Check.says("(0 .. 99; 50)");
        Check.due("leaving", Check.kerb("kl9;s").count(6), 50);
        Check.says("LENGTH (1 .. 9; 3)");
        Check.due("LENGTH", Check.kerb("sw5").sort(0, 0), 3);
        Check.says("WEIGHT (1 .. 9; 1)");
        Check.due("WEIGHT", Check.kerb("sl5").sort(0, 1), 1);
        Check.says("from which YARD (0 .. 19; 0)");
        KerbSide from = Check.kerb("gl3;s");
        Check.due("from 0", Check.yard(from, 0, 0), 1);
        Check.due("to 2", Check.yard(from, 2, 0), 1);
        Check.due("not 3", Check.yard(from, 3, 0), 0);
        Check.says("how long (1 .. 9; 1)");
        KerbSide one = Check.kerb("ga3;s");
        Check.due("3", Check.yard(one, 3, 0), 1);
        Check.due("one alone", one.gaps(2), 11);
        Check.says("usual numbers do not come from the CLAUSE ahead");
        KerbSide two = Check.kerb("sl7w8;s;ga5l4;g");
        Check.due("LENGTH", two.sort(1, 0), 3);
        Check.due("WEIGHT", two.sort(1, 1), 1);
        Check.due("GATE", Check.yard(two, 0, 0), 1);
        Check.due("GATE of one", Check.yard(two, 1, 0), 0);
    }

    private static void ruleTexts() {
        Check.says("RULES (4 at most)");
        KerbSide x = new KerbSide();
        for (int i = 0; i < 4; i++) {
            Check.due("its number", Check.text(x, 1, "y:" + i), i);
        }
        Check.due("a fifth", Check.text(x, 1, "y:4"), -1);
        Check.due("no FAULT", x.fault(1), -1);
        Check.due("four", x.count(2), 4);
        Check.says("CLAUSES with ; between, one at least");
        ruleFault("", 0);
        ruleFault(" ", 1);
        ruleFault(";y:1", 0);
        ruleFault("y:1;", 4);
        ruleFault("y:1;;y:1", 4);
        ruleFault("y:1 y:1", 4);
        StringBuilder many = new StringBuilder("y:0");
        while (many.length() + 4 <= 160) {
            many.append(";y:0");
        }
        ruleFault(many.toString(), -1);
        Check.says("y, : , perhaps CONDITION ?, then SUM");
        ruleFault("y", 1);
        ruleFault("y:", 2);
        ruleFault("y?1", 1);
        ruleFault("y:1", -1);
        ruleFault("y:1=1", 5);
        ruleFault("y:1=1?", 6);
        ruleFault("y:1=1?1", -1);
        ruleFault("y:1=1?1?1", 7);
        ruleFault("y:1=1?1=1", 7);
        ruleFault("y:1?1", 3);
        ruleFault("y:?1", 2);
    }

    private static void ruleGrammar() {
        Check.says("CONDITION: TRUTHS with | between");
        ruleFault("y:1=1|?1", 6);
        ruleFault("y:1=1||1=1?1", 6);
        chosen("y:p=6|p=5&p=1|p=0-1?1", 6);
        Check.says("TRUTH: UNITS with & between");
        ruleFault("y:1=1&?1", 6);
        ruleFault("y:1=1&&1=1?1", 6);
        chosen("y:p>1&p<7&p>5?1", 6);
        Check.says("UNIT: ! UNIT, ( CONDITION ), or SUM, one of = < >, SUM");
        ruleFault("y:!1?1", 4);
        ruleFault("y:()?1", 3);
        ruleFault("y:(1)?1", 4);
        ruleFault("y:1<=1?1", 4);
        ruleFault("y:1<2<3?1", 5);
        chosen("y:!p=0&p<6?1", 1);
        chosen("y:!(p=0&p<6)?1", 1);
        chosen("y:(p=5|p=6)&(p=6|p=7)?1", 6);
        Check.says("SUM: TERMS with + or - between; TERM: ATOMS with * or / between");
        sum("10-4-3", "3");
        sum("10-4+3", "9");
        sum("2+3*4-1", "13");
        sum("20/2*5", "50");
        sum("20/[2*5]", "2");
        ruleFault("y:1+", 4);
        ruleFault("y:1++1", 4);
        ruleFault("y:1*/1", 4);
        ruleFault("y:-1", 2);
        Check.says("ATOM: a number (1 to 4 digits)");
        sum("9999", "9998+1");
        sum("0009", "9");
        ruleFault("y:9999", -1);
        ruleFault("y:10000", 6);
        ruleFault("y:00001", 6);
        Check.says("a letter (p l b a n)");
        for (char sign = 33; sign < 127; sign++) {
            boolean opens = "plban0123456789".indexOf(sign) >= 0;
            ruleFault("y:" + sign, opens ? -1 : "[!(".indexOf(sign) >= 0 ? 3 : 2);
        }
        Check.says("[ SUM ]");
        ruleFault("y:[]", 3);
        ruleFault("y:[1", 4);
        ruleFault("y:[1)", 4);
        ruleFault("y:[1=1]", 4);
        ruleFault("y:1]", 3);
        sum("[1+2]*[3]", "9");
        Check.says("(A CLAUSE that goes on with ! or ( behind its : has a CONDITION.)");
        ruleFault("y:(1)", 4);
        ruleFault("y:(1)+1", 4);
        ruleFault("y:(1=1)", 7);
        ruleFault("y:(1=1);y:1", 7);
        ruleFault("y:!1=1", 6);
        ruleFault("y:!1=1;y:1", 6);
        ruleFault("y:[1]", -1);
    }

    private static String nested(String open, String inside, String close) {
        return "y:" + open + inside + close;
    }

    private static void ruleDepth() {
        Check.says("At most six of ( [ ! within one another");
        ruleFault(nested("((((((", "1=1", "))))))?1"), -1);
        ruleFault(nested("(((((((", "1=1", ")))))))?1"), 8);
        ruleFault(nested("[[[[[[", "1", "]]]]]]"), -1);
        ruleFault(nested("[[[[[[[", "1", "]]]]]]]"), 8);
        ruleFault(nested("!!!!!!", "1=1", "?1"), -1);
        ruleFault(nested("!!!!!!!", "1=1", "?1"), 8);
        ruleFault(nested("!(!(!(", "1=1", ")))?1"), -1);
        ruleFault(nested("!(!(!([", "1]=1", ")))?1"), 8);
        ruleFault(nested("((([[[", "1]]]=[[[1", "]]])))?1"), -1);
        ruleFault(nested("((([[[", "1]]]=[[[[1", "]]]])))?1"), 16);
        ruleFault(nested("((((((", "1=1))))))&!!!!!!1=1|[[[[[[1]]]]]]=1", "?[[[[[[1]]]]]]"), -1);
        ruleFault("y:1=1?[[[[[[[1]]]]]]]", 12);
        ruleFault("y:((((((1=1&!1=1))))))?1", 12);
    }

    private static void ruleNumbers() {
        Check.says("Behind each sign numbers are within -1,000,000 .. 1,000,000");
        sum("1000*1000-1", "999*1001");
        sum("1000*1000+1", "1000*1000");
        sum("1000*1001", "1000*1000");
        sum("9999*9999*9999", "1000*1000");
        sum("0-9999*9999", "0-1000*1000");
        sum("0-1000*1000-1", "0-1000*1000");
        sum("9999*9999-9999*9999", "0");
        sum("1000*1000+9999-9999", "1000*1000-9999");
        sum("0-1000*1000-9999+9999", "9999-1000*1000");
        sum("9999*9999/1000", "1000");
        sum("[0-9999]*9999/1000", "0-1000");
        sum("[1000*1000]*[1000*1000]", "1000*1000");
        sum("[0-1000*1000]*[1000*1000]", "0-1000*1000");
        Check.says("/ cuts towards 0");
        sum("7/2", "3");
        sum("[0-7]/2", "0-3");
        sum("7/[0-2]", "0-3");
        sum("[0-7]/[0-2]", "3");
        sum("1/2", "0");
        sum("[0-1]/2", "0");
        sum("0-7/2", "0-3");
        Check.says("by 0 gives 0");
        sum("5/0", "0");
        sum("0/0", "0");
        sum("[0-5]/0", "0");
        sum("5/[3-3]+2", "2");
        sum("5/0*7", "0");
    }

    private static void ruleWorth() {
        Check.says("WORTH of a RULE: the SUM of the first CLAUSE whose CONDITION holds");
        chosen("y:p=5?3;y:p>4?2;y:p=7?9", 5);
        chosen("y:p<9?0;y:p=7?9", 0);
        Check.says("(or has none)");
        chosen("y:p;y:9-p", 7);
        chosen("y:p=7?0;y:p;y:99", 6);
        Check.says("0 without");
        chosen("y:p<6?0-1", 6);
        chosen("y:p>0?0-p", 0);
        chosen("y:p=99?5", 0);
    }

    private static void blanks() {
        Check.says("Blanks (32) may stand between all signs of both");
        KerbSide x = Check.kerb("   k  l 10  q 5 o 07 ;  s  l 4 w 2 ; g  a  3   l 2  ");
        Check.due("YARDS", x.count(0), 10);
        Check.due("OBEY", x.count(5), 5);
        Check.due("leaving", x.count(6), 7);
        Check.due("LENGTH", x.sort(0, 0), 4);
        Check.due("WEIGHT", x.sort(0, 1), 2);
        Check.due("free", x.gaps(2), 8);
        chosen("  y  :  (  p  =  5  |  !  p  <  7  )  ?  [  p  +  1  ]  *  2  ;  y  :  0  ", 7);
        Check.says("not within numbers");
        kerbFault("sl1 2", 4);
        kerbFault("kl2 0;s", 4);
        kerbFault("kl1 2;s", 2);
        ruleFault("y:1 2", 4);
        ruleFault("y:12 3 4", 5);
        Check.says("(32) and no other sign");
        for (int sign = 1; sign <= 255; sign++) {
            if (sign != 32 && sign != ';' && sign != 'l' && sign != 'w') {
                kerbFault("s" + (char) sign + ";s", 1);
            }
        }
        ruleFault("y:\t1", 2);
        ruleFault("\ny:1", 0);
        ruleFault("y\u00a0:1", 1);
    }

    private static void faults() {
        Check.says("FAULT: the first byte at which no such TEXT can go on");
        for (int sign = 1; sign <= 255; sign++) {
            String text = String.valueOf((char) sign);
            kerbFault(text, sign == 's' ? -1 : sign == 'k' || sign == 'g' || sign == 32 ? 1 : 0);
            ruleFault(text, sign == 'y' || sign == 32 ? 1 : 0);
        }
        kerbFault("x;kl99;s", 0);
        kerbFault("sx;kl99", 1);
        ruleFault("y:1;y:q;z", 6);
        Check.says("(the length, if it ends too early");
        kerbFault("", 0);
        kerbFault("   ", 3);
        kerbFault("s;", 2);
        kerbFault("s;   ", 5);
        kerbFault("s;k l", 5);
        kerbFault("s;k l  ", 7);
        ruleFault("y:[1+  ", 7);
        ruleFault("y:(1=1  ", 8);
        Check.says("or without a SORT)");
        kerbFault("k", 1);
        kerbFault("kl5;ga1;g  ", 11);
        Check.says("a letter that was there");
        kerbFault("sl2l2", 3);
        kerbFault("kl5q0o0q0;s", 7);
        kerbFault("kl5q0o0l;s", 7);
        kerbFault("sl2 w2 l0", 7);
        Check.says("a second k");
        kerbFault("s;k;g;k", 6);
        kerbFault("s;kl3; k", 7);
        Check.says("a fifth s or g");
        kerbFault("s;sl2;g;s;s;k;sl99", 14);
        kerbFault("g;g;s;g;g;gl0", 10);
        kerbFault("k;s;s;s;s;g;g;g;g", -1);
        kerbFault("k;s;s;s;s;g;g;g;g;s", 18);
        kerbFault("k;s;s;s;s;g;g;g;g;g", 18);
        kerbFault("k;s;s;s;s;g;g;g;g;k", 18);
        Check.says("a seventh of ( [ ! at it");
        ruleFault("y:!([[[[ [", 9);
        ruleFault("y:p=[[[[[[1]]]]]]+[[[[[[[", 24);
    }

    private static void faultsOfNumbers() {
        Check.says("a number out of bounds is wrong at its last digit");
        kerbFault("kl21;s", 3);
        kerbFault("kl1;s", 2);
        kerbFault("kl01;s", 3);
        kerbFault("kl1", 2);
        kerbFault("kl1 ", 2);
        kerbFault("kl1x", 2);
        kerbFault("sl0", 2);
        kerbFault("sl00", 3);
        kerbFault("s;gl10l", 5);
        Check.says("a third digit (whatever stands ahead of it");
        kerbFault("kl120;s", 4);
        kerbFault("kl990;s", 4);
        kerbFault("kl000;s", 4);
        kerbFault("sl100", 4);
        kerbFault("sl0001", 4);
        kerbFault("kq999;s", 4);
        kerbFault("ga1999;s", 4);
        Check.says("a fifth one in a RULE) itself");
        ruleFault("y:12345", 6);
        ruleFault("y:00000", 6);
        ruleFault("y:123456", 6);
        ruleFault("y:1=1?99999", 10);
    }

    private static void gatesTwice() {
        Check.says("(What of a GATE lies behind the last YARD");
        KerbSide x = Check.kerb("kl5;s;ga4l9");
        Check.due("free", x.gaps(2), 4);
        Check.due("the last YARD", Check.yard(x, 4, 0), 1);
        Check.due("no YARD more", Check.yard(x, 5, 0), Check.THROWN);
        Check.due("YARDS", x.count(0), 5);
        Check.due("all behind", Check.kerb("kl5;s;ga5").gaps(2), 5);
        Check.due("the farthest", Check.kerb("kl20;s;ga19l9").gaps(2), 19);
        Check.says("or on another GATE, is nothing more.)");
        KerbSide y = Check.kerb("kl12;s;ga3l3;ga4l4;ga3l3;ga5");
        Check.due("free", y.gaps(2), 7);
        Check.due("GAPS", y.gaps(1), 2);
        for (int yard = 3; yard < 8; yard++) {
            Check.due("GATE on " + yard, Check.yard(y, yard, 0), 1);
        }
    }

    private static void newObject() {
        Check.says("KerbSide(): No KERB.");
        KerbSide x = new KerbSide();
        for (int what = 0; what <= 10; what++) {
            Check.due("count " + what, x.count(what), 0);
        }
        Check.due("no YARD", Check.yard(x, 0, 0), Check.THROWN);
        Check.due("no SORT", x.sort(0, 0), -1);
        Check.due("no IMAGE", x.back(), -1);
        Check.due("no ACT", x.undo(), -1);
    }

    private static void feed() {
        Check.says("Twenty bytes more come to the TAPE");
        KerbSide x = new KerbSide();
        Check.due("twenty", x.feed(-1, -1, -1, -1, -1), 20);
        Check.due("forty", x.feed(LEAST + 0x010101, MOST, 0x01010101, -2, 0x20202020), 40);
        Check.says("of each number the highest first");
        Check.due("sixteen", order(0x6B6C3230, 0x6F37313B, 0x736C3577, 0x363B6761), 16);
        Check.says("bytes of 0 are left out");
        KerbSide zeros = new KerbSide();
        Check.due("nothing", zeros.feed(0, 0, 0, 0, 0), 0);
        Check.due("s", zeros.feed(0, 0, 0x00007300, 0, 0), 1);
        Check.due("l", zeros.feed(0x6C000000, 0, 0, 0, 0), 2);
        Check.due("7", zeros.feed(0, 0, 0, 0, 0x00000037), 3);
        Check.due("as one text", zeros.text(0), 1);
        Check.due("LENGTH", zeros.sort(0, 0), 7);
        Check.says("NONE: more than 160.");
        KerbSide full = new KerbSide();
        for (int i = 1; i <= 7; i++) {
            full.feed(-1, -1, -1, -1, -1);
        }
        Check.due("150", full.feed(-1, -1, 0x00FF00FF, 0, 0), 150);
        Check.due("eleven more", full.feed(-1, -1, 0x00FFFFFF, 0, 0), -1);
        Check.due("twenty more", full.feed(-1, -1, -1, -1, -1), -1);
        Check.due("nothing came", full.count(3), 150);
        Check.due("ten of twenty", full.feed(0x0100FF00, 0xFF00FF, 0xFFFF, 0xFFFF0000, 0xFF0000FF), 160);
        Check.due("one more", full.feed(0, 0x00010000, 0, 0, 0), -1);
        Check.due("none more", full.feed(0, 0, 0, 0, 0), 160);
        Check.says("more than 160: the bytes of each of the five numbers count");
        for (int i = 0; i < 5; i++) {
            int[] v = {0, 0, 0, 0, 0};
            v[i] = -1;
            full.end(157);
            Check.due("four more by number " + i, full.feed(v[0], v[1], v[2], v[3], v[4]), -1);
            full.end(156);
            Check.due("four more by number " + i, full.feed(v[0], v[1], v[2], v[3], v[4]), 160);
        }
    }

    /** kl20o71;sl5w6;ga, then 3: each byte where it was put. */
    private static int order(int a, int b, int c, int d) {
        KerbSide x = new KerbSide();
        int size = x.feed(a, b, c, d, 0);
        x.feed(0x33000000, 0, 0, 0, 0);
        x.text(0);
        Check.due("YARDS", x.count(0), 20);
        Check.due("leaving", x.count(6), 71);
        Check.due("LENGTH", x.sort(0, 0), 5);
        Check.due("WEIGHT", x.sort(0, 1), 6);
        Check.due("GATE", Check.yard(x, 3, 0), 1);
        return size;
    }

    private static void end() {
        Check.says("The TAPE has its first n bytes alone.");
        KerbSide x = new KerbSide();
        Check.tape(x, "sl3;sx");
        Check.due("five", x.end(5), true);
        Check.due("five", x.count(3), 5);
        Check.due("no FAULT any more", x.fault(0), -1);
        Check.due("what comes then stands behind them", x.feed('w' << 8 | '4', 0, 0, 0, 0), 7);
        Check.due("two", x.text(0), 2);
        Check.due("WEIGHT", x.sort(1, 1), 4);
        Check.says("False: n.");
        KerbSide y = new KerbSide();
        Check.due("0 of an empty one", y.end(0), true);
        Check.due("1 of an empty one", y.end(1), false);
        Check.tape(y, "abc");
        for (int n : new int[] {-1, -2, 4, 160, 161, LEAST, MOST}) {
            Check.due("end " + n, y.end(n), false);
            Check.due("nothing changed", y.count(3), 3);
        }
        Check.due("all of it", y.end(3), true);
        Check.due("all of it", y.count(3), 3);
        Check.due("nothing of it", y.end(0), true);
        Check.due("nothing of it", y.count(3), 0);
    }

    private static void fault() {
        Check.says("NONE: none.");
        KerbSide x = new KerbSide();
        Check.due("a KERB", Check.fault(x, 0, "s"), -1);
        Check.due("the TAPE stays", x.count(3), 1);
        Check.due("no KERB yet", x.count(0), 0);
        Check.due("no RULE", x.fault(1), 0);
        Check.due("a RULE", Check.fault(x, 1, "y:1"), -1);
        Check.due("no RULE told", x.count(2), 0);
        Check.says("-2: no such sort.");
        for (int sort : new int[] {-1, -2, 2, 3, LEAST, MOST}) {
            Check.due("fault " + sort, x.fault(sort), -2);
        }
        StringBuilder longest = new StringBuilder("s");
        while (longest.length() < 160) {
            longest.append(' ');
        }
        Check.says("a TAPE of 160 bytes");
        kerbFault(longest.toString(), -1);
        kerbFault(longest.substring(0, 159) + "x", 159);
        kerbFault(longest.substring(0, 159) + ";", 160);
        ruleFault("y:" + longest.substring(1, 159), 160);
    }

    private static void text() {
        Check.says("The TAPE (empty then)");
        KerbSide x = new KerbSide();
        Check.due("how many SORTS", Check.text(x, 0, "s;s;s"), 3);
        Check.due("empty", x.count(3), 0);
        Check.due("a RULE: its number", Check.text(x, 1, "y:1"), 0);
        Check.due("empty", x.count(3), 0);
        Check.says("NONE: a FAULT");
        Check.due("a FAULT", Check.text(x, 0, "s;s;"), -1);
        Check.due("the TAPE stays", x.count(3), 4);
        Check.due("the KERB stays", x.count(1), 3);
        Check.due("a FAULT", Check.text(x, 1, "y:1+"), -1);
        Check.due("the TAPE stays", x.count(3), 4);
        Check.due("RULES stay", x.count(2), 1);
        Check.due("an empty TAPE", Check.text(x, 0, ""), -1);
        Check.due("an empty TAPE", Check.text(x, 1, ""), -1);
        Check.says("no such sort");
        Check.tape(x, "s");
        for (int sort : new int[] {-1, 2, LEAST, MOST}) {
            Check.due("text " + sort, x.text(sort), -1);
        }
        Check.due("the TAPE stays", x.count(3), 1);
        Check.says("there are four");
        for (int i = 1; i < 4; i++) {
            Check.text(x, 1, "y:p=" + i + "?1");
        }
        Check.due("a fifth", Check.text(x, 1, "y:9"), -1);
        Check.due("the TAPE stays", x.count(3), 3);
        Check.text(x, 0, "s");
        x.rule(3);
        Check.due("the fourth is as it was", x.where(0, 2), 3);
        Check.due("a KERB can be told still", Check.text(x, 0, "s;s"), 2);
    }

    private static KerbSide busy() {
        KerbSide x = Check.kerb("kl12q30o20;sl2w3;sl4;ga5;ga9");
        Check.text(x, 1, "y:p");
        x.rule(0);
        x.obey(44);
        x.run(12, 3);
        x.image();
        return x;
    }

    private static void textForgets() {
        Check.says("(nobody stands;");
        KerbSide x = busy();
        Check.due("some stand", x.count(4) > 0, true);
        Check.text(x, 0, "kl12;sl2");
        Check.due("nobody", x.count(4), 0);
        Check.due("all free", x.gaps(0), 12);
        Check.says("all that was of another one is gone");
        Check.due("SORTS", x.count(1), 1);
        Check.due("the second SORT", x.sort(1, 0), -1);
        Check.due("its OBEY", x.count(5), 0);
        Check.due("its leaving", x.count(6), 50);
        Check.due("ACTS", x.count(7), 0);
        Check.due("undo", x.undo(), -1);
        Check.due("CAME", x.count(8), 0);
        Check.due("LEFT", x.count(9), 0);
        Check.due("LOST", x.count(10), 0);
        Check.due("the IMAGE", x.back(), -1);
        Check.text(x, 0, "kl9;s;gl9");
        Check.text(x, 0, "kl9;s");
        Check.due("its GATES", x.gaps(0), 9);
        Check.text(x, 0, "kl12;sl2");
        Check.says("but RULES");
        Check.due("one", x.count(2), 1);
        Check.says("none holds)");
        Check.due("as FIRST", x.where(0, 2), 0);
        Check.due("it can hold again", x.rule(0), true);
        Check.due("by p", x.where(0, 2), 10);
        Check.says("a RULE changes nothing of the KERB");
        KerbSide y = busy();
        int cars = y.count(4);
        Check.due("its number", Check.text(y, 1, "y:0-p"), 1);
        Check.due("they stand", y.count(4), cars);
        Check.due("ACTS", y.count(7), 12);
        Check.due("OBEY", y.count(5), 44);
        Check.due("the first one still holds", y.where(0, 2), y.fits(0, y.fits(0, -1) - 1));
        Check.due("the IMAGE", y.back(), cars);
    }
}
